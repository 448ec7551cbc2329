/** Promises 12 to 21: what is asked. */
public final class AskingTest extends Sentences {

    private static void told() {
        sentence(12, "0 KIND, 1 SPAN, 2 AT, 3 SIDE", () -> {
            for (int kind = 0; kind < 5; kind++) {
                PuzzleChests x = with(kind, 6, 5);
                x.place(0, 0, 4);
                due(kind, x.told(0, 0, 0));
                due(6, x.told(0, 0, 1));
                due(4, x.told(0, 0, 2));
                due(5, x.told(0, 0, 3));
            }
        });
        sentence(12, "of a BLANK, too", () -> {
            PuzzleChests x = with(BLANK, 1, 2);
            due(BLANK, x.told(0, 0, 0));
            due(1, x.told(0, 0, 1));
            due(0, x.told(0, 0, 2));
            due(2, x.told(0, 0, 3));
        });
        noSuchChest(12, chest -> x -> x.told(chest, 16, 0));
        refused(12, "UNKNOWN: what", UNKNOWN, x -> x.told(0, 0, -1), x -> x.told(0, 0, 4), x -> x.told(0, 16, LOW),
            x -> x.told(0, 5, HIGH));
        refused(12, "OUTSIDE: seat", OUTSIDE, x -> x.told(0, -1, 0), x -> x.told(0, 16, 3), x -> x.told(0, LOW, 0),
            x -> x.told(0, HIGH, 0));
        finds(12, "as one COMES to it: NOTHING, its ROW is NOTHING", NOTHING, x -> x.told(0, 12, 0), x -> x.told(0, 15, 3));
        finds(12, "as one COMES to it: BEYOND", BEYOND, x -> x.told(0, 6, 0), x -> x.told(0, 8, 0));
        finds(12, "as one COMES to it: NOTHING, no PART is there", NOTHING, x -> x.told(0, 5, 0));
    }

    private static void tells(int kind, int span, int[] trace, int... numbers) {
        PuzzleChests x = with(kind, span, 0);
        for (int at = 0; at < span; at++) {
            x.place(0, 0, at);
            due(numbers[at], x.tell(0, 0));
            traced(x, trace);
        }
    }

    private static void tell() {
        sentence(13, "terms 2: a BAR as a PART has it (1): AT", () -> tells(BAR, 3, new int[] {1}, 0, 1, 2));
        sentence(13, "terms 2: a PIN as a PART has it (1): AT", () -> tells(PIN, 3, new int[] {1}, 0, 1, 2));
        sentence(13, "terms 2: a RING (2): what a PART tells, and 1, modulo SPAN", () -> {
            tells(RING, 3, new int[] {2, 1}, 1, 2, 0);
            tells(RING, 6, new int[] {2, 1}, 1, 2, 3, 4, 5, 0);
        });
        sentence(13, "terms 2: a RING of SPAN 1", () -> tells(RING, 1, new int[] {2, 1}, 0));
        sentence(13, "terms 2: a LATCH (3): SPAN less 1 less what a PART tells", () -> {
            tells(LATCH, 4, new int[] {3, 1}, 3, 2, 1, 0);
            tells(LATCH, 1, new int[] {3, 1}, 0);
        });
        sentence(13, "terms 2: a DRAWER (4): 0 if a PART tells 0, else 1", () -> {
            tells(DRAWER, 4, new int[] {4, 1}, 0, 1, 1, 1);
            tells(DRAWER, 1, new int[] {4, 1}, 0);
        });
        noSuchChest(13, chest -> x -> x.tell(chest, 16));
        refused(13, "OUTSIDE", OUTSIDE, x -> x.tell(0, -1), x -> x.tell(0, 16), x -> x.tell(0, LOW), x -> x.tell(0, HIGH));
        finds(13, "as one COMES to it: NOTHING, its ROW is NOTHING", NOTHING, x -> x.tell(0, 12), x -> x.tell(0, 15));
        finds(13, "as one COMES to it: BEYOND", BEYOND, x -> x.tell(0, 6), x -> x.tell(0, 8));
        finds(13, "as one COMES to it: NOTHING, no PART is there", NOTHING, x -> x.tell(0, 5));
        finds(13, "UNLIKE", UNLIKE, x -> x.tell(0, 3));
        sentence(13, "terms 2: of a BLANK: UNLIKE, nothing is written", () -> {
            PuzzleChests x = with(BLANK, 1, 0);
            due(UNLIKE, x.tell(0, 0));
            traced(x);
        });
    }

    private static void conditionTold() {
        sentence(14, "0 its SEAT, 1 the SEAT that it LOOKS at", () -> {
            PuzzleChests x = house();
            x.condition(0, 15, 0, 0);
            x.condition(0, 0, 15, 0);
            x.condition(0, -1, 7, 0);
            due(15, x.conditionTold(0, 0, 0));
            due(0, x.conditionTold(0, 0, 1));
            due(0, x.conditionTold(0, 1, 0));
            due(15, x.conditionTold(0, 1, 1));
            due(-1, x.conditionTold(0, 2, 0));
            due(7, x.conditionTold(0, 2, 1));
            due(0, x.status());
        });
        sentence(14, "2 how many TRUTHS (NONE: NOTHING)", () -> {
            PuzzleChests x = house();
            for (int n = -1; n <= 6; n++) {
                x.condition(0, 0, 0, n);
                due(n, x.conditionTold(0, n + 1, 2));
            }
            due(0, x.status());
        });
        sentence(14, "3 + i TRUTH i (NONE: there is none such, i 0 .. 5)", () -> {
            PuzzleChests x = house();
            for (int n = -1; n <= 6; n++) {
                x.condition(0, 0, 0, n);
                if (n > 0) {
                    x.truth(0, n + 1, n - 1, true);
                }
                for (int i = 0; i < 6; i++) {
                    due(i >= n ? NONE : i == n - 1 ? 1 : 0, x.conditionTold(0, n + 1, 3 + i));
                    due(0, x.status());
                }
            }
        });
        noSuchChest(14, chest -> x -> x.conditionTold(chest, 0, 0));
        refused(14, "UNKNOWN: CONDITION", UNKNOWN, x -> x.conditionTold(0, -1, 0), x -> x.conditionTold(0, 7, 0),
            x -> x.conditionTold(2, 0, 0), x -> x.conditionTold(0, LOW, 0), x -> x.conditionTold(0, HIGH, 0));
        refused(14, "UNKNOWN: what", UNKNOWN, x -> x.conditionTold(0, 0, -1), x -> x.conditionTold(0, 0, 9),
            x -> x.conditionTold(0, 1, 9), x -> x.conditionTold(0, 0, LOW), x -> x.conditionTold(0, 0, HIGH));
    }

    private static void holds() {
        sentence(15, "1, 0: the truth at the number that the PART tells", () -> {
            int[][] numbers = {{0, 1, 2}, {1, 2, 0}, {0, 1, 2}, {2, 1, 0}, {0, 1, 1}};
            for (int kind = 0; kind < 5; kind++) {
                for (int truth = 0; truth < 3; truth++) {
                    PuzzleChests x = with(kind, 3, 0);
                    x.condition(0, 9, 0, 3);
                    x.truth(0, 0, truth, true);
                    for (int at = 0; at < 3; at++) {
                        x.place(0, 0, at);
                        due(numbers[kind][at] == truth ? 1 : 0, x.holds(0, 0));
                        due(0, x.status());
                    }
                }
            }
        });
        sentence(15, "nothing is written to THE TRACE, nor is it emptied", () -> {
            PuzzleChests x = busy();
            x.tell(0, 1);
            for (int condition = -1; condition < 8; condition++) {
                x.holds(0, condition);
                traced(x, 2, 1);
            }
        });
        noSuchChest(15, chest -> x -> x.holds(chest, 0));
        refused(15, "UNKNOWN: CONDITION", UNKNOWN, x -> x.holds(0, -1), x -> x.holds(0, 7), x -> x.holds(2, 0),
            x -> x.holds(0, LOW), x -> x.holds(0, HIGH));
        finds(15, "as one COMES to the SEAT that it LOOKS at: NOTHING, its ROW is NOTHING", NOTHING, x -> x.holds(0, 5));
        finds(15, "as one COMES to the SEAT that it LOOKS at: BEYOND", BEYOND, x -> x.holds(0, 4));
        finds(15, "as one COMES to the SEAT that it LOOKS at: NOTHING, no PART is there", NOTHING, x -> x.holds(0, 3));
        finds(15, "UNLIKE", UNLIKE, x -> x.holds(0, 2));
        finds(15, "NOTHING (TRUTHS)", NOTHING, x -> x.holds(0, 1));
        finds(15, "BEYOND: no truth at the number that it tells", BEYOND, x -> x.holds(0, 6));
        sentence(15, "BEYOND from the first number behind the TRUTHS on", () -> {
            PuzzleChests x = with(BAR, 6, 0);
            x.condition(0, 0, 0, 3);
            truths(x, 0, 1, 1, 1);
            for (int at = 0; at < 6; at++) {
                x.place(0, 0, at);
                due(at < 3 ? 1 : BEYOND, x.holds(0, 0));
            }
        });
        sentence(15, "UNLIKE comes ahead of NOTHING (TRUTHS), and the SEAT ahead of both", () -> {
            PuzzleChests x = with(BLANK, 1, 0);
            x.condition(0, 0, 0, -1);
            x.condition(0, 0, 1, -1);
            due(UNLIKE, x.holds(0, 0));
            due(BEYOND, x.holds(0, 1));
        });
    }

    private static void may() {
        sentence(16, "terms 3: a BAR (11), a DRAWER (14): AT stays 0 .. SPAN less 1", () -> {
            for (int kind : new int[] {BAR, DRAWER}) {
                PuzzleChests x = with(kind, 4, 0);
                for (int at = 0; at < 4; at++) {
                    x.place(0, 0, at);
                    due(at > 0 ? 1 : 0, x.may(0, 0));
                    traced(x, kind == BAR ? 11 : 14);
                    due(at < 3 ? 1 : 0, x.may(0, 1));
                    traced(x, kind == BAR ? 11 : 14);
                    due(0, x.status());
                }
            }
        });
        sentence(16, "terms 3: a BAR, a DRAWER of SPAN 1 do not go at all", () -> {
            for (int kind : new int[] {BAR, DRAWER}) {
                PuzzleChests x = with(kind, 1, 0);
                due(0, x.may(0, 0));
                due(0, x.may(0, 1));
            }
        });
        sentence(16, "terms 3: a RING (12) always", () -> {
            for (int span = 1; span <= 6; span++) {
                PuzzleChests x = with(RING, span, 0);
                for (int at = 0; at < span; at++) {
                    x.place(0, 0, at);
                    due(1, x.may(0, 0));
                    traced(x, 12);
                    due(1, x.may(0, 1));
                    traced(x, 12);
                }
            }
        });
        sentence(16, "terms 3: a tilt MAY always be, and writes nothing", () -> {
            PuzzleChests x = with(PIN, 3, 0);
            x.condition(0, 0, 9, -1);
            for (int t = 0; t < 6; t++) {
                due(1, x.may(0, 32 + t));
                traced(x);
                due(1, x.may(2, 32 + t));
            }
            due(0, x.count(11));
            due(0, x.state(0));
        });
        sentence(16, "the CONDITIONS of the SEAT HOLD, as all is ahead of the MOVE", () -> {
            PuzzleChests x = with(BAR, 2, 0);
            x.condition(0, 0, 0, 2);
            truths(x, 0, 1, 0);
            due(1, x.may(0, 1));
            x.place(0, 0, 1);
            due(0, x.may(0, 0));
        });
        sentence(16, "CONDITIONS of other SEATS, and of OPEN, do not matter", () -> {
            PuzzleChests x = handled();
            for (int seat = -1; seat < 16; seat++) {
                if (seat != 1) {
                    x.condition(0, seat, 0, 1);
                }
            }
            due(1, x.may(0, 2));
            traced(x, 12);
            due(0, x.may(0, 1));
            due(0, x.may(0, 5));
        });
        sentence(16, "a MOVE that STICKS MAY be", () -> {
            PuzzleChests x = handled();
            x.jam(0, 5, 0);
            due(1, x.may(0, 1));
            due(0, x.count(11));
        });
        sentence(16, "nothing moves", () -> {
            PuzzleChests x = handled();
            x.ofNumber(0, 17);
            for (int move = 0; move < 38; move++) {
                x.may(0, move);
                due(17, x.state(0));
            }
            due(0, x.count(6));
        });
        passesBy(16, "a FINDING is PASSED BY: NOTHING, its ROW is NOTHING", NOTHING, 0, x -> x.may(0, 24), x -> x.may(0, 31));
        passesBy(16, "a FINDING is PASSED BY: BEYOND", BEYOND, 0, x -> x.may(0, 12), x -> x.may(0, 17));
        passesBy(16, "a FINDING is PASSED BY: NOTHING, no PART is there", NOTHING, 0, x -> x.may(0, 10), x -> x.may(0, 11));
        passesBy(16, "a FINDING is PASSED BY: UNLIKE, the PART is not HANDLED", UNLIKE, 0, x -> x.may(0, 4),
            x -> x.may(0, 5), x -> x.may(0, 6), x -> x.may(0, 7), x -> x.may(2, 0), x -> x.may(2, 1));
        passesBy(16, "a FINDING of a CONDITION is PASSED BY", NOTHING, 0, x -> x.may(0, 2), x -> x.may(0, 3));
        sentence(16, "nothing is written where one does not come to a HANDLED PART", () -> {
            for (int move : new int[] {4, 6, 10, 12, 24}) {
                PuzzleChests x = busy();
                x.may(0, move);
                traced(x);
            }
        });
        noSuchChest(16, chest -> x -> x.may(chest, 38));
        refused(16, "OUTSIDE", OUTSIDE, x -> x.may(0, -1), x -> x.may(0, 38), x -> x.may(0, LOW), x -> x.may(0, HIGH));
    }

    private static void barredBy() {
        sentence(17, "NONE", () -> {
            PuzzleChests x = handled();
            due(NONE, x.barredBy(0, 1));
            due(NONE, x.barredBy(0, 2));
            due(NONE, x.barredBy(0, 5));
            due(NONE, x.barredBy(0, 32));
            due(NONE, x.barredBy(0, 37));
            due(0, x.status());
        });
        sentence(17, "-3: it does not go; status() tells nothing", () -> {
            PuzzleChests x = handled();
            due(-3, x.barredBy(0, 0));
            due(0, x.status());
            due(-3, x.barredBy(0, 4));
            x.ofNumber(0, 35);
            due(-3, x.barredBy(0, 1));
            due(-3, x.barredBy(0, 5));
            due(0, x.count(11));
        });
        sentence(17, "-3 comes ahead of CONDITIONS, which are not asked", () -> {
            PuzzleChests x = with(BAR, 2, 0);
            x.condition(0, 0, 9, 0);
            due(-3, x.barredBy(0, 0));
            traced(x, 11);
            due(0, x.count(11));
            due(0, x.barredBy(0, 1));
            due(1, x.count(11));
        });
        sentence(17, "a CONDITION: the first that does not hold, asked in order up to it", () -> {
            PuzzleChests x = handled();
            x.condition(0, 5, 0, 0);
            x.condition(0, 0, 1, 2);
            x.condition(0, 0, 0, 1);
            x.condition(0, 0, 2, -1);
            x.condition(0, 0, 3, 2);
            due(1, x.barredBy(0, 1));
            traced(x, 11, 2, 1);
            x.truth(0, 1, 1, true);
            due(2, x.barredBy(0, 1));
            traced(x, 11, 2, 1, 1);
            due(0, x.count(11));
            x.truth(0, 2, 0, true);
            due(3, x.barredBy(0, 1));
            traced(x, 11, 2, 1, 1, 4, 1);
            due(1, x.count(11));
            due(1, x.count(12));
            due(0, x.status());
        });
        sentence(17, "a CONDITION that LOOKS at a BLANK writes nothing", () -> {
            PuzzleChests x = handled();
            x.condition(0, 0, 3, 6);
            due(0, x.barredBy(0, 1));
            traced(x, 11);
            due(3, x.count(12));
        });
        passesBy(17, "a FINDING of a CONDITION is PASSED BY", NOTHING, 1, x -> x.barredBy(0, 2), x -> x.barredBy(0, 3));
        finds(17, "-10 less a FINDING: NOTHING, its ROW is NOTHING", NOTHING, x -> x.barredBy(0, 24), x -> x.barredBy(0, 31));
        finds(17, "-10 less a FINDING: BEYOND", BEYOND, x -> x.barredBy(0, 12), x -> x.barredBy(0, 17));
        finds(17, "-10 less a FINDING: NOTHING, no PART is there", NOTHING, x -> x.barredBy(0, 10), x -> x.barredBy(0, 11));
        finds(17, "-10 less a FINDING: UNLIKE", UNLIKE, x -> x.barredBy(0, 4), x -> x.barredBy(0, 7), x -> x.barredBy(2, 0));
        noSuchChest(17, chest -> x -> x.barredBy(chest, 38));
        refused(17, "OUTSIDE (told as -6, by status(), too)", -6, x -> x.barredBy(0, -1), x -> x.barredBy(0, 38),
            x -> x.barredBy(0, LOW), x -> x.barredBy(0, HIGH));
    }

    private static void isOpen() {
        sentence(18, "terms 2: not OPEN without CONDITIONS of OPEN", () -> {
            PuzzleChests x = with(BAR, 1, 0);
            due(0, x.isOpen(0));
            x.condition(0, 0, 0, 1);
            x.truth(0, 0, 0, true);
            due(0, x.isOpen(0));
            traced(x);
            due(0, x.isOpen(1));
        });
        sentence(18, "terms 2: OPEN, if all of them HOLD, asked in order up to the first that does not", () -> {
            PuzzleChests x = handled();
            x.condition(0, -1, 0, 1);
            x.condition(0, 7, 0, 0);
            x.condition(0, -1, 1, 2);
            x.condition(0, -1, 2, 1);
            x.truth(0, 3, 0, true);
            due(0, x.isOpen(0));
            traced(x, 1);
            x.truth(0, 0, 0, true);
            due(0, x.isOpen(0));
            traced(x, 1, 2, 1);
            x.truth(0, 2, 1, true);
            due(1, x.isOpen(0));
            traced(x, 1, 2, 1, 4, 1);
            x.truth(0, 0, 0, false);
            due(0, x.isOpen(0));
        });
        sentence(18, "terms 2: a FINDING is PASSED BY: it does not hold then", () -> {
            int[] looks = {0, 3, 5, 6, 12, 0};
            int[] sizes = {-1, 2, 2, 2, 2, 0};
            int[] findings = {1, 3, 1, 2, 1, 2};
            for (int i = 0; i < 6; i++) {
                PuzzleChests x = busy();
                x.place(0, 0, 2);
                due(1, x.isOpen(0));
                x.condition(0, -1, looks[i], sizes[i]);
                int before = x.count(11);
                due(0, x.isOpen(0));
                due(0, x.status());
                due(before + 1, x.count(11));
                due(findings[i], x.count(12));
            }
        });
        noSuchChest(18, chest -> x -> x.isOpen(chest));
    }

    private static void numbers() {
        sentence(19, "terms 1: the SPANS of all its PARTS, multiplied (1 without any)", () -> {
            PuzzleChests x = house();
            due(1, x.product(0));
            x.row(0, 0, 4);
            due(1, x.product(0));
            x.part(0, 0, BLANK, 1, 0);
            due(1, x.product(0));
            x.part(0, 1, PIN, 6, 0);
            x.part(0, 3, LATCH, 5, 0);
            due(30, x.product(0));
            x.part(0, 1, PIN, 4, 0);
            due(20, x.product(0));
            x.take(0, 3);
            due(4, x.product(0));
            due(1, x.product(1));
        });
        noSuchChest(19, chest -> x -> x.product(chest));
        sentence(20, "terms 1: over all PARTS by their SEATS, AT times the SPANS of all of lesser SEATS", () -> {
            PuzzleChests x = house();
            for (int row = 0; row < 4; row++) {
                x.row(0, row, 4);
            }
            x.part(0, 15, RING, 5, 0);
            x.part(0, 2, PIN, 3, 0);
            x.part(0, 8, BLANK, 1, 0);
            x.part(0, 9, DRAWER, 6, 0);
            due(0, x.state(0));
            x.place(0, 2, 2);
            due(2, x.state(0));
            x.place(0, 9, 5);
            due(2 + 5 * 3, x.state(0));
            x.place(0, 15, 4);
            due(2 + 5 * 3 + 4 * 18, x.state(0));
            x.take(0, 2);
            due(5 + 4 * 6, x.state(0));
        });
        sentence(20, "0 without any PART", () -> {
            due(0, house().state(2));
            due(0, house().status());
        });
        noSuchChest(20, chest -> x -> x.state(chest));
        sentence(21, "all PARTS are AT as the STATE of a NUMBER has them: the NUMBER from before", () -> {
            PuzzleChests x = handled();
            int before = 0;
            for (int number = 35; number >= 0; number--) {
                due(before, x.ofNumber(0, number));
                due(number % 4, x.told(0, 0, 2));
                due(number / 4 % 3, x.told(0, 1, 2));
                due(number / 12, x.told(0, 2, 2));
                due(number, x.state(0));
                before = number;
            }
        });
        sentence(21, "PARTS whose CONDITIONS do not hold, and PINS, are brought there, too", () -> {
            PuzzleChests x = with(PIN, 6, 0);
            x.condition(0, 0, 9, -1);
            due(0, x.ofNumber(0, 5));
            due(5, x.state(0));
            due(0, x.count(11));
        });
        sentence(21, "of a CHEST without PARTS there is 0 alone", () -> {
            PuzzleChests x = house();
            due(0, x.ofNumber(1, 0));
            due(0, x.status());
            due(OUTSIDE, x.ofNumber(1, 1));
        });
        sentence(21, "nothing is kept or let go for back(), and the SEARCH stays", () -> {
            PuzzleChests x = twoBars();
            x.move(0, 1);
            x.search(0, 1);
            x.ofNumber(0, 8);
            due(1, x.count(6));
            due(0, x.searched(5));
            due(0, x.back(0));
        });
        noSuchChest(21, chest -> x -> x.ofNumber(chest, -1));
        refused(21, "OUTSIDE: there is none such", OUTSIDE, x -> x.ofNumber(0, -1), x -> x.ofNumber(0, 72),
            x -> x.ofNumber(2, 6), x -> x.ofNumber(0, LOW), x -> x.ofNumber(0, HIGH));
    }

    public static void main(String[] args) {
        told();
        tell();
        conditionTold();
        holds();
        may();
        barredBy();
        isOpen();
        numbers();
        end();
    }
}
