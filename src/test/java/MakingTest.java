/** Promise 11: chests made by a number. */
public final class MakingTest extends Sentences {
    private static final int[] SEATS = {0, 1, 4, 5};
    private static int drawn;

    private static int draw(int n) {
        drawn = drawn * 1103515245 + 12345;
        return (drawn >>> 16) % n;
    }

    /** The CHEST BY A NUMBER, built by calls. */
    private static void build(PuzzleChests x, int chest, int number) {
        drawn = number;
        x.clear(chest);
        x.row(chest, 0, 2);
        x.row(chest, 1, 2);
        for (int seat : SEATS) {
            int kind = draw(5);
            int span = 2 + draw(3);
            x.part(chest, seat, kind, span, draw(6));
        }
        for (int k = 0; k < 6; k++) {
            int of = k == 0 ? -1 : SEATS[draw(4)];
            int looks = SEATS[draw(4)];
            int n = x.told(chest, looks, 0) == DRAWER ? 2 : x.told(chest, looks, 1);
            x.condition(chest, of, looks, n);
            for (int i = 0; i < n; i++) {
                x.truth(chest, k, i, k == 0 ? i == n - 1 : draw(3) != 0);
            }
        }
    }

    /** How many MOVES the WAY of the CHEST BY A NUMBER has. */
    private static int wayOf(int number) {
        PuzzleChests x = house();
        build(x, 0, number);
        x.search(0, 1000);
        return x.shortest();
    }

    private static int firstWithWay(int moves, int from) {
        int number = from;
        while (wayOf(number) != moves) {
            number++;
        }
        return number;
    }

    private static void made() {
        sentence(11, "the first of x, x and 1, .. x and 5 with a WAY of so many MOVES: which", () -> {
            int seen = 0;
            for (int number = 0; number < 60; number++) {
                int x = number * 7919 - 200000;
                int moves = number % 5;
                int want = NONE;
                for (int k = 5; k >= 0; k--) {
                    want = wayOf(x + k) == moves ? k : want;
                }
                PuzzleChests h = house();
                due(want, h.make(1, x, moves));
                if (want != NONE) {
                    build(h, 2, x + want);
                    due(1, h.alike(1, 2));
                }
                seen |= 1 << want + 1;
            }
            due(127, seen);
        });
        sentence(11, "terms 6: ROWS 0, 1 of 2 PLACES, 2, 3 NOTHING, four PARTS AT 0, six CONDITIONS", () -> {
            PuzzleChests x = busy();
            x.make(0, firstWithWay(2, 0), 2);
            due(4, x.count(0));
            due(6, x.count(3));
            due(0, x.state(0));
            due(BEYOND, x.told(0, 2, 0));
            due(BEYOND, x.told(0, 6, 0));
            due(NOTHING, x.told(0, 8, 0));
            due(NOTHING, x.told(0, 12, 0));
            due(-1, x.conditionTold(0, 0, 0));
        });
        sentence(11, "x below 0", () -> {
            int number = firstWithWay(1, -1000);
            PuzzleChests x = house();
            due(0, x.make(0, number, 1));
            build(x, 1, number);
            due(1, x.alike(0, 1));
        });
        sentence(11, "x and 1 behind the greatest int is the least", () -> {
            PuzzleChests x = house();
            due(1, x.make(0, HIGH, 0));
            build(x, 1, LOW);
            due(1, x.alike(0, 1));
        });
        sentence(11, "WAYS of no MOVES", () -> {
            int number = firstWithWay(0, 0);
            PuzzleChests x = house();
            due(0, x.make(0, number, 0));
            due(1, x.isOpen(0));
        });
        sentence(11, "a CHEST that can't be opened has no WAY, of whatever length", () -> {
            int number = 0;
            while (noneOfSix(number) < 6) {
                number++;
            }
            PuzzleChests x = house();
            for (int moves = 0; moves <= 40; moves++) {
                due(NONE, x.make(0, number, moves));
            }
        });
    }

    /** How many of six from a number on are without a WAY before one has one. */
    private static int noneOfSix(int number) {
        int k = 0;
        while (k < 6 && wayOf(number + k) == NONE) {
            k++;
        }
        return k;
    }

    private static void leaves() {
        sentence(11, "NONE: the CHEST is as it was", () -> {
            PuzzleChests x = busy();
            long before = x.digest(0);
            due(NONE, x.make(0, 5, 40));
            due(0, x.status());
            due(before, x.digest(0));
            due(5, x.count(0));
        });
        sentence(11, "building: make() that tells NONE lets nothing go that is kept for back()", () -> {
            PuzzleChests x = twoBars();
            x.move(0, 1);
            due(NONE, x.make(0, 5, 40));
            due(1, x.count(6));
            due(0, x.back(0));
        });
        sentence(11, "building: make() that tells which lets go what is kept of the CHEST alone", () -> {
            PuzzleChests x = twoBars();
            x.copy(0, 1);
            x.move(0, 1);
            x.move(1, 1);
            x.make(0, firstWithWay(1, 0), 1);
            due(0, x.count(6));
            due(1, x.count(7));
            due(STATE, x.back(0));
        });
        sentence(11, "JAM and the SEAT that STICKS stay in any case", () -> {
            int number = firstWithWay(1, 0);
            for (int moves : new int[] {1, 40}) {
                PuzzleChests x = house();
                x.jam(0, 9, 3);
                due(moves == 1 ? 0 : NONE, x.make(0, number, moves));
                due(9, x.out(x.export(0) - 3));
                due(4, x.out(x.export(0) - 2));
            }
        });
        sentence(11, "there is no SEARCH behind it", () -> {
            int number = firstWithWay(1, 0);
            for (int chest = 0; chest < 2; chest++) {
                for (int moves : new int[] {1, 40}) {
                    PuzzleChests x = twoBars();
                    x.search(0, 1000);
                    x.make(chest, number, moves);
                    for (int what = 0; what < 7; what++) {
                        due(NONE, x.searched(what));
                    }
                    due(STATE, x.shortest());
                    due(STATE, x.markAll());
                    due(NONE, x.ordered(0));
                    due(NONE, x.layer(0));
                    due(NONE, x.way(0));
                    due(NONE, x.along(0));
                }
            }
        });
        sentence(11, "what is made writes nothing and has its FINDINGS for nothing", () -> {
            PuzzleChests x = busy();
            int findings = x.count(11), latest = x.count(12);
            x.tell(0, 0);
            for (int number = 0; number < 30; number++) {
                x.make(number % 3, 100 * number, 1 + number % 3);
            }
            due(findings, x.count(11));
            due(latest, x.count(12));
            traced(x, 1);
        });
        noSuchChest(11, chest -> x -> x.make(chest, 1, 41));
        refused(11, "OUTSIDE: moves are not 0 .. 40", OUTSIDE, x -> x.make(0, 1, -1), x -> x.make(0, 1, 41),
            x -> x.make(0, 1, LOW), x -> x.make(0, 1, HIGH));
        sentence(11, "0 and 40 moves are fine", () -> {
            PuzzleChests x = house();
            due(1, x.make(0, 5, 0) >= NONE ? 1 : 0);
            due(NONE, x.make(0, 5, 40));
            due(0, x.status());
        });
    }

    public static void main(String[] args) {
        made();
        leaves();
        end();
    }
}
