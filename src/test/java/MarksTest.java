/** Promises 41 to 45: marks. */
public final class MarksTest extends Sentences {

    private static void mark() {
        sentence(41, "terms 5: a truth for each NUMBER 0 .. 1023, 0 at first", () -> {
            PuzzleChests x = house();
            due(0, x.mark(0, 1024, false));
            due(1024, x.mark(0, 1024, true));
            due(1024, x.count(13));
            due(1024, x.mark(0, 1024, false));
        });
        sentence(41, "from a NUMBER on, n of them, are v: how many were not so before", () -> {
            PuzzleChests x = house();
            due(3, x.mark(2, 3, true));
            due(2, x.mark(3, 4, true));
            for (int number = 0; number < 9; number++) {
                due(number >= 2 && number < 7 ? 1 : 0, x.marked(number));
            }
            due(2, x.mark(5, 100, false));
            due(3, x.count(13));
            due(1021, x.mark(0, 1024, true));
        });
        sentence(41, "the ends of what is told", () -> {
            PuzzleChests x = house();
            due(1, x.mark(0, 1, true));
            due(1, x.mark(1023, 1, true));
            due(1, x.marked(0));
            due(1, x.marked(1023));
            due(2, x.count(13));
            due(0, x.mark(1024, 0, true));
            due(0, x.mark(0, 0, true));
            due(0, x.status());
            due(2, x.count(13));
        });
        refused(41, "OUTSIDE: from", OUTSIDE, x -> x.mark(-1, 1, true), x -> x.mark(1025, 0, true), x -> x.mark(-1, 0, true),
            x -> x.mark(LOW, 1, true), x -> x.mark(HIGH, 1, true));
        refused(41, "OUTSIDE: n", OUTSIDE, x -> x.mark(0, -1, false), x -> x.mark(0, 1025, true), x -> x.mark(1024, -1, false),
            x -> x.mark(0, LOW, true), x -> x.mark(0, HIGH, true));
        refused(41, "OUTSIDE: from + n", OUTSIDE, x -> x.mark(1, 1024, true), x -> x.mark(1024, 1, true),
            x -> x.mark(1023, 2, true), x -> x.mark(HIGH, HIGH, true), x -> x.mark(1024, HIGH, true));
    }

    private static void markAll() {
        sentence(42, "MARKED are just the STATES COME TO: how many", () -> {
            PuzzleChests x = twoBars();
            x.mark(7, 500, true);
            x.search(0, 1000);
            due(9, x.markAll());
            due(9, x.count(13));
            for (int number = 0; number < 12; number++) {
                due(number < 9 ? 1 : 0, x.marked(number));
            }
        });
        sentence(42, "marks from before are gone, also those of 0 and 1023", () -> {
            PuzzleChests x = twoBars();
            x.ofNumber(0, 4);
            x.search(0, 1);
            x.mark(0, 1, true);
            x.mark(1023, 1, true);
            due(3, x.markAll());
            due(0, x.marked(0));
            due(0, x.marked(1023));
            due(3, x.count(13));
        });
        sentence(42, "of one that is SPENT: also those not TAKEN", () -> {
            PuzzleChests x = twoBars();
            x.mark(0, 1024, true);
            x.search(0, 3);
            due(4, x.markAll());
            due(4, x.count(13));
            int[] marked = {1, 1, 1, 0, 0, 1, 0, 0, 0};
            for (int number = 0; number < 9; number++) {
                due(marked[number], x.marked(number));
            }
        });
        sentence(42, "of one that is OVER, too", () -> {
            PuzzleChests x = twoBars();
            x.search(0, 1000);
            x.clear(0);
            due(9, x.markAll());
            due(0, x.status());
            due(9, x.count(13));
        });
        sentence(42, "of all 1024", () -> {
            PuzzleChests x = largest();
            x.search(0, 1000);
            x.goOn(1000);
            due(1024, x.markAll());
            due(1024, x.count(13));
        });
        refusedIn(MarksTest::marksAlone, 42, "STATE: no SEARCH", STATE, x -> x.markAll());
    }

    private static PuzzleChests marksAlone() {
        PuzzleChests x = twoBars();
        x.mark(4, 100, true);
        return x;
    }

    private static void marked() {
        sentence(43, "whether a STATE is MARKED (1, 0)", () -> {
            PuzzleChests x = house();
            x.mark(1, 1, true);
            x.mark(1022, 2, true);
            x.mark(1022, 1, false);
            int[] numbers = {0, 1, 2, 1021, 1022, 1023};
            int[] marks = {0, 1, 0, 0, 0, 1};
            for (int i = 0; i < 6; i++) {
                due(marks[i], x.marked(numbers[i]));
            }
        });
        sentence(43, "NONE: there is no such NUMBER", () -> {
            PuzzleChests x = house();
            x.mark(0, 1024, true);
            for (int number : new int[] {-1, 1024, LOW, HIGH}) {
                due(NONE, x.marked(number));
                due(0, x.status());
            }
        });
    }

    /** The STATE is 4; all STATES of the trap it stands in, 3 to 5, are MARKED. */
    private static PuzzleChests inTheTrap() {
        PuzzleChests x = withTraps();
        x.ofNumber(0, 4);
        x.mark(3, 3, true);
        return x;
    }

    private static void shows() {
        sentence(44, "terms 5: 1, if no MOVE leads out and none is OPEN", () -> {
            PuzzleChests x = inTheTrap();
            due(1, x.shows(0));
            due(0, x.status());
        });
        sentence(44, "terms 5: 0, the STATE that it has is not MARKED", () -> {
            PuzzleChests x = inTheTrap();
            x.ofNumber(0, 0);
            due(0, x.shows(0));
            due(0, house().shows(0));
        });
        sentence(44, "terms 5: 0, a MARKED one is OPEN", () -> {
            PuzzleChests x = inTheTrap();
            x.mark(9, 3, true);
            due(0, x.shows(0));
        });
        sentence(44, "terms 5: 0, a MOVE that MAY be of a MARKED one gives one that is not", () -> {
            PuzzleChests x = inTheTrap();
            x.mark(5, 1, false);
            due(0, x.shows(0));
        });
        sentence(44, "terms 5: 0, a tilt of a MARKED one gives one that is not", () -> {
            for (int t = 0; t < 6; t++) {
                PuzzleChests x = with(PIN, 3, t);
                x.mark(0, 2, true);
                due(0, x.shows(0));
                x.mark(2, 1, true);
                due(1, x.shows(0));
            }
        });
        sentence(44, "terms 5: a PART at SEAT 15 that falls is AT as it was for what is looked at behind it", () -> {
            PuzzleChests x = house();
            x.row(0, 3, 4);
            x.part(0, 12, BAR, 2, 0);
            x.part(0, 15, PIN, 3, 4);
            x.mark(0, 2, true);
            x.mark(4, 2, true);
            due(1, x.shows(0));
            due(0, x.state(0));
            x.mark(5, 1, false);
            due(0, x.shows(0));
            due(1, x.shown(0));
            due(36, x.shown(1));
            due(5, x.shown(2));
        });
        sentence(44, "terms 5: 0, a MARKED one that can't be come to is OPEN, or leads out", () -> {
            PuzzleChests x = inTheTrap();
            x.mark(0, 1, true);
            due(0, x.shows(0));
            x.mark(0, 1, false);
            due(1, x.shows(0));
            x.mark(11, 1, true);
            due(0, x.shows(0));
        });
        sentence(44, "terms 5: by NUMBERS below THE PRODUCT: marks from it on do not matter", () -> {
            PuzzleChests x = inTheTrap();
            x.mark(12, 1012, true);
            due(1, x.shows(0));
        });
        sentence(44, "terms 5: the last NUMBER below THE PRODUCT does", () -> {
            PuzzleChests x = with(BAR, 2, 0);
            x.condition(0, -1, 0, 2);
            x.truth(0, 0, 1, true);
            x.condition(0, 0, 0, 0);
            x.mark(0, 1, true);
            due(1, x.shows(0));
            x.mark(1, 1, true);
            due(0, x.shows(0));
            x = largest();
            x.mark(0, 1024, true);
            due(1, x.shows(0));
            x.mark(1023, 1, false);
            due(0, x.shows(0));
        });
        sentence(44, "terms 3: what is checked writes nothing, has its FINDINGS for nothing, and leaves the CHEST", () -> {
            PuzzleChests x = busy();
            x.goOn(1000);
            x.markAll();
            int findings = x.count(11), latest = x.count(12);
            long before = x.digest(0);
            x.tell(0, 1);
            due(0, x.shows(0));
            traced(x, 2, 1);
            due(findings, x.count(11));
            due(latest, x.count(12));
            due(before, x.digest(0));
            due(1, x.count(6));
        });
        sentence(44, "terms 6: the SEAT that STICKS is none of its matters", () -> {
            PuzzleChests x = with(RING, 3, 0);
            x.jam(0, 3, 0);
            x.mark(0, 1, true);
            due(0, x.shows(0));
        });
        noSuchChest(44, chest -> x -> x.shows(chest));
    }

    private static void shownIs(PuzzleChests x, int state, int move, int behind) {
        due(state, x.shown(0));
        due(move, x.shown(1));
        due(behind, x.shown(2));
        due(0, x.status());
    }

    private static void shown() {
        sentence(45, "NONE before any", () -> shownIs(house(), NONE, NONE, NONE));
        sentence(45, "1 the MOVE: -2: it has no MARK", () -> {
            PuzzleChests x = withTraps();
            x.ofNumber(0, 4);
            x.mark(0, 4, true);
            x.shows(0);
            shownIs(x, 4, -2, NONE);
        });
        sentence(45, "1 the MOVE: NONE: it is OPEN, which is looked at ahead of its MOVES", () -> {
            PuzzleChests x = inTheTrap();
            x.mark(10, 1, true);
            x.shows(0);
            shownIs(x, 10, NONE, NONE);
        });
        sentence(45, "the MOVE, and 2 the NUMBER behind it, the first by numbers", () -> {
            PuzzleChests x = inTheTrap();
            x.mark(3, 1, false);
            x.shows(0);
            shownIs(x, 4, 0, 3);
            x.mark(3, 1, true);
            x.mark(5, 1, false);
            x.shows(0);
            shownIs(x, 4, 1, 5);
            x.mark(3, 1, false);
            x.shows(0);
            shownIs(x, 4, 0, 3);
        });
        sentence(45, "the MOVE is a tilt", () -> {
            PuzzleChests x = withTraps();
            x.mark(0, 3, true);
            x.shows(0);
            shownIs(x, 0, 36, 3);
        });
        sentence(45, "terms 5: by NUMBERS: a lesser one that leads out comes ahead of one that is OPEN", () -> {
            PuzzleChests x = inTheTrap();
            x.mark(6, 6, true);
            x.mark(1, 1, true);
            x.shows(0);
            shownIs(x, 1, 0, 0);
            x.mark(1, 1, false);
            x.shows(0);
            shownIs(x, 6, NONE, NONE);
        });
        sentence(45, "terms 5: the STATE that it has comes first", () -> {
            PuzzleChests x = inTheTrap();
            x.ofNumber(0, 11);
            x.mark(0, 1, true);
            x.shows(0);
            shownIs(x, 11, -2, NONE);
        });
        sentence(45, "NONE behind one that told 1", () -> {
            PuzzleChests x = inTheTrap();
            x.mark(3, 1, false);
            due(0, x.shows(0));
            x.mark(3, 1, true);
            due(1, x.shows(0));
            shownIs(x, NONE, NONE, NONE);
        });
        sentence(45, "of the latest shows(), of whichever CHEST", () -> {
            PuzzleChests x = inTheTrap();
            due(0, x.shows(1));
            shownIs(x, 0, -2, NONE);
            x.mark(0, 1024, false);
            shownIs(x, 0, -2, NONE);
            due(0, x.shows(0));
            shownIs(x, 4, -2, NONE);
        });
        refused(45, "UNKNOWN", UNKNOWN, x -> x.shown(-1), x -> x.shown(3), x -> x.shown(LOW), x -> x.shown(HIGH));
    }

    public static void main(String[] args) {
        mark();
        markAll();
        marked();
        shows();
        shown();
        end();
    }
}
