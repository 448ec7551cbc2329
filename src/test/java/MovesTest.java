/** Promises 22 to 29: moves. */
public final class MovesTest extends Sentences {

    private static void place() {
        sentence(22, "a PART is AT another place: where it was", () -> {
            PuzzleChests x = handled();
            due(0, x.place(0, 0, 3));
            due(3, x.place(0, 0, 0));
            due(0, x.place(0, 0, 0));
            due(0, x.place(0, 3, 0));
            due(0, x.place(0, 2, 2));
            due(24, x.state(0));
        });
        sentence(22, "CONDITIONS, SIDES and the SEAT that STICKS do not matter", () -> {
            PuzzleChests x = with(PIN, 3, 0);
            x.condition(0, 0, 9, 0);
            x.jam(0, 3, 0);
            due(0, x.place(0, 0, 2));
            due(2, x.state(0));
            due(0, x.count(11));
        });
        sentence(22, "nothing is kept or let go for back(), and the SEARCH stays", () -> {
            PuzzleChests x = twoBars();
            x.move(0, 1);
            x.search(0, 1);
            x.place(0, 1, 2);
            due(1, x.count(6));
            due(0, x.searched(5));
            due(0, x.back(0));
            due(0, x.told(0, 1, 2));
        });
        noSuchChest(22, chest -> x -> x.place(chest, 16, 9));
        refused(22, "OUTSIDE: seat", OUTSIDE, x -> x.place(0, -1, 0), x -> x.place(0, 16, 9), x -> x.place(0, LOW, 0),
            x -> x.place(0, HIGH, 0));
        finds(22, "as one COMES to it: NOTHING, its ROW is NOTHING", NOTHING, x -> x.place(0, 12, 0), x -> x.place(0, 15, 9));
        finds(22, "as one COMES to it: BEYOND", BEYOND, x -> x.place(0, 6, 0), x -> x.place(0, 8, 0));
        finds(22, "as one COMES to it: NOTHING, no PART is there", NOTHING, x -> x.place(0, 5, 0), x -> x.place(0, 5, -1));
        finds(22, "BEYOND: at is not 0 .. SPAN less 1", BEYOND, x -> x.place(0, 0, 3), x -> x.place(0, 0, -1),
            x -> x.place(0, 3, 1), x -> x.place(0, 1, 4), x -> x.place(0, 0, LOW), x -> x.place(0, 0, HIGH));
    }

    private static void moveOfSeat() {
        sentence(23, "terms 3: 2 s: the PART of SEAT s is one lower, 2 s + 1: one higher", () -> {
            for (int seat = 0; seat < 16; seat++) {
                PuzzleChests x = house();
                for (int row = 0; row < 4; row++) {
                    x.row(0, row, 4);
                }
                for (int other = 0; other < 16; other++) {
                    x.part(0, other, BAR, other == seat ? 5 : 1, 0);
                }
                x.place(0, seat, 2);
                due(1, x.move(0, 2 * seat + 1));
                due(3, x.told(0, seat, 2));
                due(1, x.move(0, 2 * seat));
                due(1, x.move(0, 2 * seat));
                due(1, x.told(0, seat, 2));
            }
        });
        sentence(23, "terms 3: a BAR (11), a DRAWER (14): AT stays 0 .. SPAN less 1", () -> {
            for (int kind : new int[] {BAR, DRAWER}) {
                PuzzleChests x = with(kind, 3, 0);
                due(0, x.move(0, 0));
                due(0, x.state(0));
                due(1, x.move(0, 1));
                traced(x, kind == BAR ? 11 : 14);
                due(1, x.move(0, 1));
                due(2, x.state(0));
                due(0, x.move(0, 1));
                traced(x, kind == BAR ? 11 : 14);
                due(2, x.state(0));
                due(0, x.status());
            }
        });
        sentence(23, "terms 3: a RING (12) goes round and round, both ways", () -> {
            PuzzleChests x = with(RING, 3, 0);
            int[] lower = {2, 1, 0}, higher = {1, 2, 0};
            for (int i = 0; i < 3; i++) {
                due(1, x.move(0, 0));
                traced(x, 12);
                due(lower[i], x.state(0));
            }
            for (int i = 0; i < 3; i++) {
                due(1, x.move(0, 1));
                due(higher[i], x.state(0));
            }
        });
        sentence(23, "terms 3: a RING of SPAN 1 goes, and is where it was", () -> {
            PuzzleChests x = with(RING, 1, 0);
            due(1, x.move(0, 0));
            due(1, x.move(0, 1));
            due(0, x.state(0));
            due(2, x.count(6));
        });
        sentence(23, "0: it MAY not be, as a CONDITION does not hold", () -> {
            PuzzleChests x = twoBars();
            due(0, x.move(0, 3));
            traced(x, 11, 1);
            due(0, x.status());
            due(0, x.state(0));
            due(0, x.count(6));
            x.place(0, 0, 2);
            due(1, x.move(0, 3));
            due(5, x.state(0));
        });
        passesBy(23, "0, a FINDING is PASSED BY: NOTHING, its ROW is NOTHING", NOTHING, 0, x -> x.move(0, 24));
        passesBy(23, "0, a FINDING is PASSED BY: BEYOND", BEYOND, 0, x -> x.move(0, 12), x -> x.move(0, 17));
        passesBy(23, "0, a FINDING is PASSED BY: NOTHING, no PART is there", NOTHING, 0, x -> x.move(0, 11));
        passesBy(23, "0, a FINDING is PASSED BY: UNLIKE, PINS, LATCHES and BLANKS are not HANDLED", UNLIKE, 0,
            x -> x.move(0, 5), x -> x.move(0, 7), x -> x.move(2, 0));
        passesBy(23, "0, a FINDING of a CONDITION is PASSED BY", NOTHING, 0, x -> x.move(0, 3));
        noSuchChest(23, chest -> x -> x.move(chest, 38));
        refused(23, "OUTSIDE", OUTSIDE, x -> x.move(0, -1), x -> x.move(0, 38), x -> x.move(0, LOW), x -> x.move(0, HIGH));
    }

    private static void stuck() {
        finds(23, "JAM (STUCK): it is not done, nothing is kept", JAM, x -> x.move(0, 9));
        findsIn(MovesTest::sticksWithoutJam, 23, "NOTHING (STUCK), if there is no JAM", NOTHING, x -> x.move(0, 1));
        sentence(23, "STUCK: what MAY be is asked first, and written", () -> {
            PuzzleChests x = busy();
            x.move(0, 9);
            traced(x, 14);
        });
        sentence(23, "STUCK: a MOVE of that SEAT that MAY not be is 0, and no JAM", () -> {
            PuzzleChests x = busy();
            int findings = x.count(11);
            due(0, x.move(0, 8));
            due(0, x.status());
            due(findings, x.count(11));
            x.condition(0, 4, 0, 1);
            due(0, x.move(0, 9));
            due(0, x.status());
        });
        sentence(23, "STUCK: MOVES of other SEATS are done", () -> {
            PuzzleChests x = handled();
            x.jam(0, 99, 0);
            due(1, x.move(0, 3));
            due(1, x.move(0, 5));
            x.jam(0, 99, 15);
            due(1, x.move(0, 1));
            x.jam(0, 99, -1);
            due(1, x.move(0, 1));
        });
        sentence(23, "STUCK: of that CHEST alone", () -> {
            PuzzleChests x = handled();
            x.copy(0, 1);
            x.jam(0, 1, 0);
            due(1, x.move(1, 1));
            due(JAM, x.move(0, 1));
        });
        sentence(23, "STUCK: a tilt is no MOVE of a SEAT", () -> {
            PuzzleChests x = with(PIN, 3, 0);
            x.jam(0, 1, 0);
            due(1, x.move(0, 32));
            due(2, x.state(0));
        });
    }

    private static PuzzleChests sticksWithoutJam() {
        PuzzleChests x = handled();
        x.move(0, 3);
        x.jam(0, 0, 0);
        return x;
    }

    private static void tilts() {
        sentence(23, "terms 3: one whose SIDE is t falls up, t xor 1 down, others stay", () -> {
            for (int side = 0; side < 6; side++) {
                for (int t = 0; t < 6; t++) {
                    PuzzleChests x = with(PIN, 5, side);
                    x.place(0, 0, 2);
                    due(1, x.move(0, 32 + t));
                    due(side == t ? 4 : side / 2 == t / 2 ? 0 : 2, x.state(0));
                    due(side / 2 == t / 2 ? 1 : 0, x.count(10));
                    due(side / 2 == t / 2 ? 13 : NONE, x.trace(0));
                    due(1, x.count(6));
                }
            }
        });
        sentence(23, "terms 3: FALLERS of each SEAT, from 0 to 15", () -> {
            for (int seat = 0; seat < 16; seat++) {
                PuzzleChests x = house();
                x.row(0, seat / 4, 4);
                x.part(0, seat, PIN, 3, 1);
                x.move(0, 33);
                due(2, x.state(0));
                x.move(0, 32);
                due(0, x.state(0));
            }
        });
        sentence(23, "terms 1: SIDE counts for PINS and LATCHES alone", () -> {
            for (int kind : new int[] {BAR, RING, DRAWER, BLANK}) {
                PuzzleChests x = with(kind, kind == BLANK ? 1 : 3, 0);
                x.place(0, 0, kind == BLANK ? 0 : 1);
                int before = x.state(0);
                due(1, x.move(0, 32));
                due(1, x.move(0, 33));
                due(before, x.state(0));
                traced(x);
                due(0, x.count(11));
            }
        });
        sentence(23, "terms 3: by SEATS: a later one sees where an earlier one has fallen, not the other way", () -> {
            PuzzleChests x = house();
            x.row(0, 0, 1);
            x.row(0, 2, 1);
            x.part(0, 0, PIN, 2, 0);
            x.part(0, 8, PIN, 2, 0);
            x.condition(0, 8, 0, 2);
            truths(x, 0, 0, 1);
            x.move(0, 32);
            due(3, x.state(0));
            traced(x, 13, 13, 1);
            x.clear(0);
            x.row(0, 0, 1);
            x.row(0, 2, 1);
            x.part(0, 0, PIN, 2, 0);
            x.part(0, 8, PIN, 2, 0);
            x.condition(0, 0, 8, 2);
            truths(x, 0, 0, 1);
            x.move(0, 32);
            due(2, x.state(0));
            traced(x, 13, 1, 13);
        });
        sentence(23, "terms 3: the number is written also where no step goes", () -> {
            PuzzleChests x = with(PIN, 3, 0);
            x.move(0, 33);
            traced(x, 13);
            x.place(0, 0, 2);
            x.move(0, 32);
            traced(x, 13);
            x.part(0, 0, PIN, 1, 0);
            x.move(0, 32);
            traced(x, 13);
            x.part(0, 0, LATCH, 3, 0);
            x.move(0, 33);
            traced(x, 15, 13);
        });
        sentence(23, "terms 3: CONDITIONS of its SEAT, asked anew ahead of each step, and not where AT would not stay", () -> {
            PuzzleChests x = with(PIN, 4, 0);
            x.condition(0, 0, 0, 4);
            truths(x, 0, 1, 1, 1, 1);
            x.move(0, 32);
            due(3, x.state(0));
            traced(x, 13, 1, 1, 1);
            x.move(0, 32);
            traced(x, 13);
            x.truth(0, 0, 1, false);
            x.move(0, 33);
            due(1, x.state(0));
            traced(x, 13, 1, 1, 1);
            x.move(0, 32);
            due(1, x.state(0));
            traced(x, 13, 1);
        });
        sentence(23, "terms 3: a FINDING of a CONDITION of one that falls is PASSED BY, at each step asked", () -> {
            PuzzleChests x = with(PIN, 4, 0);
            x.condition(0, 0, 0, 2);
            truths(x, 0, 1, 1);
            due(1, x.move(0, 32));
            due(0, x.status());
            due(2, x.state(0));
            due(1, x.count(11));
            due(2, x.count(12));
        });
        sentence(23, "terms 3: a tilt is done, also if nothing falls", () -> {
            PuzzleChests x = house();
            due(1, x.move(2, 37));
            due(1, x.count(8));
            due(0, x.back(2));
        });
    }

    private static void latches() {
        sentence(23, "terms 3: a LATCH (15; then 13 behind it) falls up, and down", () -> {
            PuzzleChests x = with(LATCH, 4, 2);
            x.place(0, 0, 2);
            x.move(0, 35);
            due(0, x.state(0));
            traced(x, 15, 13);
            x.move(0, 34);
            due(3, x.state(0));
            traced(x, 15, 13);
        });
        sentence(23, "terms 3: a LATCH that is AT SPAN less 1 stays, also where it would fall down, 13 is not come to", () -> {
            PuzzleChests x = with(LATCH, 4, 2);
            x.place(0, 0, 3);
            x.move(0, 35);
            due(3, x.state(0));
            traced(x, 15);
            x.move(0, 34);
            due(3, x.state(0));
            traced(x, 15);
            x.part(0, 0, LATCH, 1, 2);
            x.move(0, 35);
            traced(x, 15);
        });
        sentence(23, "terms 3: a LATCH of another SIDE writes nothing", () -> {
            PuzzleChests x = with(LATCH, 4, 2);
            for (int t : new int[] {0, 1, 4, 5}) {
                x.move(0, 32 + t);
                traced(x);
            }
            due(0, x.state(0));
        });
        sentence(23, "terms 3: CONDITIONS of a LATCH are asked anew, as what it tells goes down", () -> {
            PuzzleChests x = with(LATCH, 4, 2);
            x.condition(0, 0, 0, 4);
            truths(x, 0, 0, 0, 1, 1);
            x.move(0, 34);
            due(2, x.state(0));
            traced(x, 15, 13, 3, 1, 3, 1, 3, 1);
        });
    }

    private static void rowOfMoves() {
        sentence(24, "how many; 40 at most, each 0 .. 37", () -> {
            PuzzleChests x = house();
            for (int i = 0; i < 40; i++) {
                due(i + 1, x.type(i % 38));
                due(0, x.status());
            }
            due(FULL, x.type(0));
            due(40, x.count(9));
            due(40, x.untype());
            due(1, x.type(37));
        });
        refused(24, "OUTSIDE", OUTSIDE, x -> x.type(-1), x -> x.type(38), x -> x.type(LOW), x -> x.type(HIGH));
        refusedIn(MovesTest::typedFull, 24, "FULL: 40", FULL, x -> x.type(0), x -> x.type(37));
        refusedIn(MovesTest::typedFull, 24, "OUTSIDE comes ahead of FULL", OUTSIDE, x -> x.type(38), x -> x.type(-1));
        sentence(25, "THE ROW OF MOVES is empty: how many it had", () -> {
            PuzzleChests x = typedFull();
            due(40, x.untype());
            due(0, x.count(9));
            due(0, x.untype());
            due(0, x.status());
            x.type(32);
            x.type(99);
            due(1, x.untype());
        });
        sentence(25, "MOVES from before do not come again", () -> {
            PuzzleChests x = twoBars();
            type(x, 1, 1);
            type(x, 32);
            due(1, x.play(0));
            due(0, x.state(0));
        });
    }

    private static PuzzleChests typedFull() {
        PuzzleChests x = twoBars();
        for (int i = 0; i < 40; i++) {
            x.type(i % 2 == 0 ? 1 : 0);
        }
        return x;
    }

    private static void play() {
        sentence(26, "in order, up to the first that MAY not be: how many were done (these stay)", () -> {
            PuzzleChests x = twoBars();
            type(x, 1, 0, 1, 3, 1, 3);
            due(3, x.play(0));
            traced(x, 11, 11, 11, 11, 1);
            due(1, x.state(0));
            due(3, x.count(6));
            due(0, x.status());
            due(6, x.count(9));
            due(0, x.back(0));
            due(1, x.back(0));
            due(0, x.back(0));
        });
        sentence(26, "all of 40 are done; the latest 30 STATES are kept", () -> {
            PuzzleChests x = typedFull();
            due(40, x.play(0));
            due(0, x.state(0));
            due(30, x.count(6));
            due(40, x.count(10));
        });
        sentence(26, "0: no MOVE is typed, or the first MAY not be", () -> {
            PuzzleChests x = twoBars();
            due(0, x.play(0));
            due(0, x.status());
            type(x, 0, 1);
            due(0, x.play(0));
            due(0, x.state(0));
            due(0, x.count(6));
        });
        passesBy(26, "a FINDING by which one MAY not be is PASSED BY", BEYOND, 0, MovesTest::playsBeyond);
        sentence(26, "up to the first that is STUCK, PASSED BY", () -> {
            for (int jam : new int[] {0, 7}) {
                PuzzleChests x = twoBars();
                x.jam(0, jam, 1);
                type(x, 1, 1, 3, 0);
                due(2, x.play(0));
                due(0, x.status());
                due(2, x.state(0));
                due(2, x.count(6));
                due(1, x.count(11));
                due(jam == 0 ? 1 : 5, x.count(12));
                traced(x, 11, 11, 11, 1);
            }
        });
        sentence(26, "attempted() is left", () -> {
            PuzzleChests x = busy();
            x.play(0);
            due(1, x.attempted(0));
            due(9, x.attempted(1));
            due(5, x.attempted(2));
        });
        noSuchChest(26, chest -> x -> x.play(chest));
    }

    /** Types a MOVE that is BEYOND in front of others, plays, and types again what busy() had. */
    private static int playsBeyond(PuzzleChests x) {
        type(x, 12, 1);
        int done = x.play(0);
        int status = x.status();
        type(x, 1, 9);
        return status == 0 ? done : status;
    }

    private static void attempt() {
        sentence(27, "1: all are done, and OPEN behind the last: these stay, and are kept", () -> {
            PuzzleChests x = twoBars();
            type(x, 1, 1, 3, 3);
            due(1, x.attempt(0));
            due(0, x.status());
            due(8, x.state(0));
            traced(x, 11, 11, 11, 1, 11, 1, 1);
            due(4, x.count(6));
            due(5, x.back(0));
            due(2, x.back(0));
            due(1, x.back(0));
            due(0, x.back(0));
            due(STATE, x.back(0));
        });
        sentence(27, "0: one MAY not be: all is AT as it was, and nothing is kept", () -> {
            PuzzleChests x = twoBars();
            x.move(0, 1);
            type(x, 1, 3, 3, 3);
            due(0, x.attempt(0));
            due(0, x.status());
            due(1, x.state(0));
            due(1, x.count(6));
            traced(x, 11, 11, 1, 11, 1, 11);
        });
        sentence(27, "0: one MAY not be, though it is OPEN ahead of it", () -> {
            PuzzleChests x = twoBars();
            x.ofNumber(0, 8);
            type(x, 1);
            due(0, x.attempt(0));
            traced(x, 11);
        });
        sentence(27, "0: one is STUCK: all is AT as it was, and nothing is kept", () -> {
            for (int jam : new int[] {0, 7}) {
                PuzzleChests x = twoBars();
                x.jam(0, jam, 1);
                type(x, 1, 1, 3, 3);
                due(0, x.attempt(0));
                due(0, x.status());
                due(0, x.state(0));
                due(0, x.count(6));
                due(1, x.count(11));
                due(jam == 0 ? 1 : 5, x.count(12));
            }
        });
        sentence(27, "0: the CHEST is not OPEN behind the last one", () -> {
            PuzzleChests x = twoBars();
            type(x, 1, 1, 3);
            due(0, x.attempt(0));
            traced(x, 11, 11, 11, 1, 1);
            due(0, x.state(0));
            due(0, x.count(6));
        });
        sentence(27, "0: OPEN on the way, but not behind the last one", () -> {
            PuzzleChests x = twoBars();
            type(x, 1, 1, 3, 3, 2);
            due(0, x.attempt(0));
            due(0, x.state(0));
        });
        sentence(27, "no MOVE is typed: 1 if the CHEST is OPEN, else 0", () -> {
            PuzzleChests x = twoBars();
            due(0, x.attempt(0));
            traced(x, 1);
            x.ofNumber(0, 8);
            due(1, x.attempt(0));
            due(0, x.count(6));
            due(0, x.attempt(1));
        });
        sentence(27, "PARTS that fell in an attempt are AT as they were", () -> {
            PuzzleChests x = with(PIN, 5, 0);
            x.place(0, 0, 2);
            type(x, 32, 33);
            due(0, x.attempt(0));
            due(2, x.state(0));
        });
        sentence(27, "an attempt that fails pushes out nothing of the 30 that are kept", () -> {
            PuzzleChests x = typedFull();
            x.play(0);
            due(0, x.attempt(0));
            due(30, x.count(6));
            for (int i = 0; i < 15; i++) {
                due(1, x.back(0));
                due(0, x.back(0));
            }
            due(STATE, x.back(0));
        });
        sentence(27, "FINDINGS of the CONDITIONS of OPEN are PASSED BY", () -> {
            PuzzleChests x = twoBars();
            x.ofNumber(0, 8);
            x.condition(0, -1, 15, 1);
            due(0, x.attempt(0));
            due(0, x.status());
            due(1, x.count(11));
        });
        noSuchChest(27, chest -> x -> x.attempt(chest));
    }

    private static void attemptedIs(PuzzleChests x, int done, int move, int finding) {
        due(done, x.attempted(0));
        due(move, x.attempted(1));
        due(finding, x.attempted(2));
        due(0, x.status());
    }

    private static void attempted() {
        sentence(28, "0, NONE, 0 before any", () -> {
            PuzzleChests x = twoBars();
            attemptedIs(x, 0, NONE, 0);
            type(x, 0);
            x.play(0);
            attemptedIs(x, 0, NONE, 0);
        });
        sentence(28, "0 how many MOVES were done, 1 the MOVE that was not (NONE: all were)", () -> {
            PuzzleChests x = twoBars();
            type(x, 1, 3, 1);
            x.attempt(0);
            attemptedIs(x, 1, 3, 0);
            type(x, 0);
            x.attempt(0);
            attemptedIs(x, 0, 0, 0);
            type(x, 1, 1, 3, 3);
            x.attempt(0);
            attemptedIs(x, 4, NONE, 0);
        });
        sentence(28, "all were done, though the CHEST was not OPEN behind them", () -> {
            PuzzleChests x = twoBars();
            type(x, 1, 1);
            x.attempt(0);
            attemptedIs(x, 2, NONE, 0);
        });
        sentence(28, "2 the FINDING by which it was STUCK", () -> {
            PuzzleChests x = twoBars();
            x.jam(0, 99, 1);
            type(x, 1, 1, 3);
            x.attempt(0);
            attemptedIs(x, 2, 3, 5);
            x.jam(0, 0, 1);
            x.attempt(0);
            attemptedIs(x, 2, 3, 1);
        });
        sentence(28, "2: 0, if a MOVE MAY not be, also by a FINDING", () -> {
            PuzzleChests x = twoBars();
            type(x, 1, 9);
            x.attempt(0);
            attemptedIs(x, 1, 9, 0);
        });
        sentence(28, "of the latest attempt(), also one of no MOVES", () -> {
            PuzzleChests x = busy();
            attemptedIs(x, 1, 9, 5);
            x.untype();
            x.attempt(0);
            attemptedIs(x, 0, NONE, 0);
        });
        refused(28, "UNKNOWN", UNKNOWN, x -> x.attempted(-1), x -> x.attempted(3), x -> x.attempted(LOW), x -> x.attempted(HIGH));
    }

    private static void back() {
        sentence(29, "the STATE ahead of the latest MOVE that was done is so again: its NUMBER", () -> {
            PuzzleChests x = twoBars();
            x.move(0, 1);
            x.move(0, 1);
            x.move(0, 3);
            due(2, x.back(0));
            due(2, x.state(0));
            due(1, x.back(0));
            due(1, x.count(6));
            x.move(0, 1);
            due(1, x.back(0));
            due(0, x.back(0));
            due(0, x.state(0));
            due(0, x.count(6));
        });
        sentence(29, "MOVES that were not done are not kept", () -> {
            PuzzleChests x = twoBars();
            x.jam(0, 3, 1);
            x.move(0, 0);
            x.move(0, 3);
            x.move(0, 9);
            x.place(0, 0, 2);
            x.move(0, 3);
            due(0, x.count(6));
            due(STATE, x.back(0));
        });
        sentence(29, "wherever PARTS are by then", () -> {
            PuzzleChests x = twoBars();
            x.ofNumber(0, 4);
            x.move(0, 1);
            x.ofNumber(0, 8);
            due(4, x.back(0));
            due(4, x.state(0));
        });
        sentence(29, "of tilts, too, also where nothing fell", () -> {
            PuzzleChests x = with(PIN, 4, 0);
            x.move(0, 32);
            x.move(0, 32);
            due(3, x.back(0));
            due(0, x.back(0));
            due(0, x.state(0));
        });
        sentence(29, "the latest 30 are kept", () -> {
            PuzzleChests x = with(RING, 6, 0);
            for (int i = 0; i < 31; i++) {
                due(i < 30 ? i : 30, x.count(6));
                x.move(0, 1);
            }
            due(30, x.count(6));
            for (int i = 30; i > 0; i--) {
                due(i % 6, x.back(0));
            }
            due(STATE, x.back(0));
            due(1, x.state(0));
        });
        sentence(29, "for each CHEST", () -> {
            PuzzleChests x = twoBars();
            x.copy(0, 1);
            x.copy(0, 2);
            x.ofNumber(1, 1);
            x.ofNumber(2, 4);
            for (int chest = 0; chest < 3; chest++) {
                x.move(chest, 1);
            }
            due(1, x.back(1));
            due(1, x.count(6));
            due(4, x.back(2));
            due(0, x.back(0));
        });
        sentence(29, "of move(), play() and attempt() in one row", () -> {
            PuzzleChests x = twoBars();
            x.move(0, 1);
            type(x, 1);
            x.play(0);
            type(x, 3, 3);
            due(1, x.attempt(0));
            due(4, x.count(6));
            due(5, x.back(0));
            due(2, x.back(0));
            due(1, x.back(0));
            due(0, x.back(0));
        });
        noSuchChest(29, chest -> x -> x.back(chest));
        refusedIn(Sentences::twoBars, 29, "STATE: none is kept", STATE, x -> x.back(0), x -> x.back(1));
    }

    public static void main(String[] args) {
        place();
        moveOfSeat();
        stuck();
        tilts();
        latches();
        rowOfMoves();
        play();
        attempt();
        attempted();
        back();
        end();
    }
}
