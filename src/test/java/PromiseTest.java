/** Each promise of the document by hand: ordinary inputs, the edges that it names, wrong inputs. */
public final class PromiseTest {
    private static final int NONE = PuzzleChests.NONE, UNKNOWN = PuzzleChests.UNKNOWN, OUTSIDE = PuzzleChests.OUTSIDE;
    private static final int STATE = PuzzleChests.STATE, FULL = PuzzleChests.FULL, SPENT = PuzzleChests.SPENT;
    private static final int NOTHING = -11, BEYOND = -12, UNLIKE = -13, SIZE = -14, JAM = -15;
    private static final int BAR = 0, RING = 1, PIN = 2, LATCH = 3, DRAWER = 4, BLANK = 5;
    private static final int LOW = Integer.MIN_VALUE, HIGH = Integer.MAX_VALUE;

    private static int wrong;
    private static int promise;

    private static void due(long want, long got) {
        if (got != want) {
            wrong++;
            int line = StackWalker.getInstance().walk(s -> s.skip(1).findFirst().get().getLineNumber());
            System.out.println("promise " + promise + ", line " + line + ": answered " + got + ", due is " + want);
        }
    }

    private static void traced(PuzzleChests x, int... numbers) {
        int line = StackWalker.getInstance().walk(s -> s.skip(1).findFirst().get().getLineNumber());
        boolean same = x.count(10) == numbers.length;
        for (int i = 0; i < numbers.length; i++) {
            same &= x.trace(i) == numbers[i];
        }
        if (!same || x.trace(numbers.length) != NONE) {
            wrong++;
            StringBuilder text = new StringBuilder();
            for (int i = 0; i < x.count(10); i++) {
                text.append(' ').append(x.trace(i));
            }
            System.out.println("promise " + promise + ", line " + line + ": the trace is" + text);
        }
    }

    private static PuzzleChests house() {
        return new PuzzleChests();
    }

    /** A BAR of 3 at SEAT 0; a BAR of 3 at SEAT 1 that goes while the first is AT 2; OPEN when that is AT 2. */
    private static PuzzleChests twoBars() {
        PuzzleChests x = house();
        x.row(0, 0, 2);
        x.part(0, 0, BAR, 3, 0);
        x.part(0, 1, BAR, 3, 0);
        x.condition(0, 1, 0, 3);
        x.truth(0, 0, 2, true);
        x.condition(0, -1, 1, 3);
        x.truth(0, 1, 2, true);
        return x;
    }

    /** One row of 4 PLACES with a BAR of 4, a RING of 3, a DRAWER of 3 and a BLANK. */
    private static PuzzleChests handled() {
        PuzzleChests x = house();
        x.row(0, 0, 4);
        x.part(0, 0, BAR, 4, 0);
        x.part(0, 1, RING, 3, 0);
        x.part(0, 2, DRAWER, 3, 0);
        x.part(0, 3, BLANK, 1, 0);
        return x;
    }

    private static void type(PuzzleChests x, int... moves) {
        x.untype();
        for (int m : moves) {
            x.type(m);
        }
    }

    /** A search over twelve states, of which some can't be opened any more: a LATCH that falls shuts all. */
    private static PuzzleChests withTraps() {
        PuzzleChests x = house();
        x.row(0, 0, 3);
        x.part(0, 0, BAR, 3, 0);
        x.part(0, 1, LATCH, 2, 4);
        x.part(0, 2, BAR, 2, 0);
        x.condition(0, 2, 1, 2);
        x.truth(0, 0, 1, true);
        x.condition(0, 2, 0, 3);
        x.truth(0, 1, 2, true);
        x.condition(0, -1, 2, 2);
        x.truth(0, 2, 1, true);
        return x;
    }

    private static void promise1() {
        PuzzleChests x = house();
        for (int chest = 0; chest < 3; chest++) {
            for (int row = 0; row < 4; row++) {
                due(NOTHING, x.told(chest, 4 * row, 0));
            }
            due(1, x.product(chest));
            due(0, x.state(chest));
            due(0, x.isOpen(chest));
            due(8, x.export(chest));
        }
        x = house();
        due(0, x.status());
        due(NONE, x.searched(0));
        due(STATE, x.goOn(1));
        for (int what = 0; what < 14; what++) {
            due(0, x.count(what));
        }
        due(NONE, x.trace(0));
        due(NONE, x.out(0));
        due(0, x.attempted(0));
        due(NONE, x.attempted(1));
        due(0, x.attempted(2));
        due(NONE, x.shown(0));
    }

    private static void promise2() {
        PuzzleChests x = house();
        due(UNKNOWN, x.row(-1, 0, 1));
        due(UNKNOWN, x.row(3, 0, 1));
        due(UNKNOWN, x.row(0, -1, 1));
        due(UNKNOWN, x.row(0, 4, 9));
        due(OUTSIDE, x.row(0, 0, 5));
        due(OUTSIDE, x.row(0, 0, HIGH));
        due(0, x.count(11));
        due(SIZE, x.row(0, 0, -2));
        due(SIZE, x.row(0, 0, LOW));
        due(2, x.count(11));
        due(4, x.count(12));
        due(1, x.row(0, 0, 0));
        due(BEYOND, x.part(0, 0, BAR, 2, 0));
        due(1, x.row(0, 3, 4));
        due(1, x.part(0, 15, BAR, 2, 0));
        due(1, x.row(0, 3, 4));
        due(0, x.count(0));
        due(NOTHING, x.told(0, 15, 0));
        due(1, x.product(0));
        x.part(0, 15, BAR, 2, 0);
        due(1, x.row(0, 3, -1));
        due(0, x.count(0));
        due(NOTHING, x.part(0, 15, BAR, 2, 0));
        due(SIZE, x.row(0, 3, -3));
        due(NOTHING, x.part(0, 12, BAR, 2, 0));
    }

    private static void promise3() {
        PuzzleChests x = house();
        x.row(0, 0, 4);
        x.row(0, 1, 2);
        due(UNKNOWN, x.part(3, 0, BAR, 2, 0));
        due(UNKNOWN, x.part(-1, 99, BAR, 2, 0));
        due(OUTSIDE, x.part(0, -1, BAR, 2, 0));
        due(OUTSIDE, x.part(0, 16, BAR, 2, 0));
        due(OUTSIDE, x.part(0, 0, -1, 2, 0));
        due(OUTSIDE, x.part(0, 0, 6, 1, 0));
        due(OUTSIDE, x.part(0, 0, BAR, 0, 0));
        due(OUTSIDE, x.part(0, 0, BAR, 7, 0));
        due(OUTSIDE, x.part(0, 0, BAR, 2, -1));
        due(OUTSIDE, x.part(0, 0, BAR, 2, 6));
        due(OUTSIDE, x.part(0, 0, BLANK, 2, 0));
        due(OUTSIDE, x.part(0, 8, BLANK, 2, 0));
        due(NOTHING, x.part(0, 8, BAR, 2, 0));
        due(BEYOND, x.part(0, 6, BAR, 2, 0));
        due(1, x.part(0, 0, PIN, 6, 5));
        due(2, x.told(0, 0, 0));
        due(6, x.told(0, 0, 1));
        due(0, x.told(0, 0, 2));
        due(5, x.told(0, 0, 3));
        x.place(0, 0, 4);
        due(1, x.part(0, 0, PIN, 6, 5));
        due(0, x.told(0, 0, 2));
        due(2, x.part(0, 1, BLANK, 1, 3));
        due(3, x.part(0, 2, BAR, 6, 0));
        due(4, x.part(0, 3, BAR, 6, 0));
        due(FULL, x.part(0, 4, BAR, 5, 0));
        due(5, x.part(0, 4, BAR, 4, 0));
        due(FULL, x.part(0, 5, BAR, 2, 0));
        due(FULL, x.part(0, 4, BAR, 5, 0));
        due(NOTHING, x.part(0, 12, BAR, 6, 0));
        due(5, x.part(0, 0, DRAWER, 4, 0));
        due(576, x.product(0));
        PuzzleChests full = house();
        full.row(1, 2, 4);
        full.row(1, 3, 1);
        for (int seat = 8; seat < 13; seat++) {
            due(seat - 7, full.part(1, seat, RING, 4, 0));
        }
        due(1024, full.product(1));
        due(FULL, full.part(1, 12, RING, 5, 0));
        due(4, full.told(1, 12, 1));
    }

    private static void promise4() {
        PuzzleChests x = handled();
        due(UNKNOWN, x.take(-1, 0));
        due(UNKNOWN, x.take(3, 99));
        due(OUTSIDE, x.take(0, -1));
        due(OUTSIDE, x.take(0, 16));
        due(NOTHING, x.take(0, 4));
        x.row(0, 1, 1);
        due(BEYOND, x.take(0, 5));
        due(NOTHING, x.take(0, 4));
        due(3, x.take(0, 1));
        due(NOTHING, x.take(0, 1));
        due(12, x.product(0));
        due(NOTHING, x.told(0, 1, 0));
        due(DRAWER, x.told(0, 2, 0));
    }

    private static void promise5() {
        PuzzleChests x = house();
        due(UNKNOWN, x.condition(3, 99, 0, 0));
        due(OUTSIDE, x.condition(0, -2, 0, 0));
        due(OUTSIDE, x.condition(0, 16, 0, 0));
        due(OUTSIDE, x.condition(0, 0, -1, 0));
        due(OUTSIDE, x.condition(0, 0, 16, -9));
        due(OUTSIDE, x.condition(0, 0, 0, 7));
        due(SIZE, x.condition(0, 0, 0, -2));
        due(0, x.condition(0, 15, 15, 6));
        for (int i = 0; i < 6; i++) {
            due(0, x.conditionTold(0, 0, 3 + i));
        }
        due(1, x.condition(0, -1, 0, -1));
        due(NONE, x.conditionTold(0, 1, 2));
        due(2, x.condition(0, 0, 0, 0));
        due(0, x.conditionTold(0, 2, 2));
        for (int i = 3; i < 40; i++) {
            due(i, x.condition(0, 0, 0, 1));
        }
        due(FULL, x.condition(0, 0, 0, 1));
        due(OUTSIDE, x.condition(0, 16, 0, 1));
        due(SIZE, x.condition(0, 0, 0, -2));
        due(40, x.count(3));
        due(0, x.condition(1, 0, 0, 1));
    }

    private static void promise6() {
        PuzzleChests x = house();
        x.condition(0, 0, 0, 2);
        x.condition(0, 0, 0, -1);
        x.condition(0, 0, 0, 0);
        due(UNKNOWN, x.truth(3, 0, 0, true));
        due(UNKNOWN, x.truth(-1, 0, 0, true));
        due(UNKNOWN, x.truth(0, 3, 0, true));
        due(UNKNOWN, x.truth(0, -1, 9, true));
        due(UNKNOWN, x.truth(1, 0, 0, true));
        due(NOTHING, x.truth(0, 1, 9, true));
        due(BEYOND, x.truth(0, 0, 2, true));
        due(BEYOND, x.truth(0, 0, -1, true));
        due(BEYOND, x.truth(0, 0, HIGH, true));
        due(BEYOND, x.truth(0, 0, LOW, true));
        due(BEYOND, x.truth(0, 2, 0, true));
        due(0, x.truth(0, 0, 1, true));
        due(1, x.truth(0, 0, 1, true));
        due(0, x.conditionTold(0, 0, 3));
        due(1, x.conditionTold(0, 0, 4));
        due(1, x.truth(0, 0, 1, false));
        due(0, x.conditionTold(0, 0, 4));
    }

    private static void truthsAre(PuzzleChests x, int condition, int... truths) {
        for (int i = 0; i < truths.length; i++) {
            due(truths[i], x.conditionTold(0, condition, 3 + i));
        }
    }

    private static void promise7() {
        PuzzleChests x = house();
        x.condition(0, 0, 0, 6);
        x.condition(0, 0, 0, 3);
        x.condition(0, 0, 0, -1);
        x.truth(0, 0, 0, true);
        x.truth(0, 0, 2, true);
        due(UNKNOWN, x.copyTruths(3, 0, 0, 0, 0, 0));
        due(UNKNOWN, x.copyTruths(0, 3, 0, 0, 0, 0));
        due(UNKNOWN, x.copyTruths(0, 0, 0, 3, 0, 0));
        due(UNKNOWN, x.copyTruths(0, -1, 0, 2, 0, -1));
        due(NOTHING, x.copyTruths(0, 2, 9, 0, 0, 9));
        due(NOTHING, x.copyTruths(0, 0, 0, 2, 0, -1));
        due(BEYOND, x.copyTruths(0, 1, -1, 0, 0, 1));
        due(BEYOND, x.copyTruths(0, 1, 0, 0, -1, 1));
        due(BEYOND, x.copyTruths(0, 1, 0, 0, 0, -1));
        due(BEYOND, x.copyTruths(0, 1, 0, 0, 0, 4));
        due(BEYOND, x.copyTruths(0, 0, 0, 1, 0, 4));
        due(BEYOND, x.copyTruths(0, 1, 4, 0, 0, 0));
        due(BEYOND, x.copyTruths(0, 0, 0, 1, 4, 0));
        due(BEYOND, x.copyTruths(0, 1, 1, 0, 0, HIGH));
        due(BEYOND, x.copyTruths(0, 1, HIGH, 0, 0, 1));
        due(BEYOND, x.copyTruths(0, 1, 0, 0, HIGH, 1));
        due(0, x.copyTruths(0, 1, 3, 0, 6, 0));
        truthsAre(x, 1, 0, 0, 0);
        due(3, x.copyTruths(0, 1, 0, 0, 0, 3));
        truthsAre(x, 1, 1, 0, 1, NONE);
        due(5, x.copyTruths(0, 0, 1, 0, 0, 5));
        truthsAre(x, 0, 1, 1, 0, 1, 0, 0);
        due(4, x.copyTruths(0, 0, 0, 0, 1, 4));
        truthsAre(x, 0, 1, 0, 1, 0, 0, 0);
        due(1, x.copyTruths(0, 0, 5, 1, 2, 1));
        truthsAre(x, 0, 1, 0, 1, 0, 0, 1);
    }

    private static void promise8() {
        PuzzleChests x = twoBars();
        due(UNKNOWN, x.jam(3, 0, 0));
        due(OUTSIDE, x.jam(0, -1, 0));
        due(OUTSIDE, x.jam(0, 100, 0));
        due(OUTSIDE, x.jam(0, 0, -2));
        due(OUTSIDE, x.jam(0, 0, 16));
        x.move(0, 1);
        x.search(0, 1000);
        due(0, x.jam(0, 99, 15));
        due(1, x.count(6));
        due(0, x.searched(5));
        due(99, x.jam(0, 0, -1));
        due(0, x.jam(0, 7, 0));
        due(JAM, x.move(0, 1));
        due(0, x.jam(1, 0, 0));
    }

    private static void promise9() {
        PuzzleChests x = handled();
        x.condition(0, 0, 0, 1);
        x.jam(0, 5, 2);
        due(UNKNOWN, x.clear(3));
        due(UNKNOWN, x.clear(-1));
        due(4, x.clear(0));
        due(1, x.alike(0, 1));
        due(0, x.count(0));
        due(0, x.count(3));
        due(0, x.jam(0, 0, 0));
        due(0, x.clear(0));
    }

    private static void promise10() {
        PuzzleChests x = handled();
        x.condition(0, 0, 1, 2);
        x.jam(0, 5, 2);
        x.place(0, 0, 3);
        due(UNKNOWN, x.copy(3, 0));
        due(UNKNOWN, x.copy(0, 3));
        due(4, x.copy(0, 2));
        due(1, x.alike(0, 2));
        due(3, x.told(2, 0, 2));
        due(5, x.jam(2, 5, 2));
        x.truth(2, 0, 0, true);
        due(0, x.conditionTold(0, 0, 3));
        x.place(2, 0, 1);
        due(3, x.told(0, 0, 2));
        x.row(2, 0, -1);
        due(4, x.count(0));
        due(0, x.copy(1, 0));
        due(1, x.alike(0, 1));
        PuzzleChests y = twoBars();
        y.move(0, 1);
        due(0, y.copy(0, 1) - 2);
        due(1, y.count(6));
        due(0, y.count(7));
        due(2, y.copy(0, 0));
        due(0, y.count(6));
        due(1, y.state(0));
    }

    private static void promise11() {
        PuzzleChests x = house();
        due(UNKNOWN, x.make(3, 1, 0));
        due(UNKNOWN, x.make(-1, 1, 99));
        due(OUTSIDE, x.make(0, 1, -1));
        due(OUTSIDE, x.make(0, 1, 41));
        due(0, x.count(0));
        int seen = 0;
        for (int n = 0; n < 40; n++) {
            for (int moves = 0; moves < 6; moves++) {
                int which = x.make(0, 1000 * n, moves);
                if (which == NONE) {
                    due(STATE, x.markAll());
                } else {
                    seen |= 1 << which;
                    looksLike(x, 1000 * n + which);
                    due(NONE, x.searched(0));
                    due(1, x.search(0, 1000));
                    due(moves, x.shortest());
                    for (int before = 0; before < which; before++) {
                        due(0, x.make(1, 1000 * n + before, moves) == 0 ? 1 : 0);
                    }
                }
            }
            x = house();
        }
        due(63, seen);
        makeLeaves();
    }

    private static void makeLeaves() {
        PuzzleChests x = twoBars();
        x.jam(0, 9, 3);
        x.move(0, 1);
        x.search(0, 1000);
        long digest = x.digest(0);
        due(NONE, x.make(0, 5, 40));
        due(0, x.status());
        due(digest, x.digest(0));
        due(1, x.count(6));
        due(NONE, x.searched(0));
        due(STATE, x.shortest());
        x.search(0, 1000);
        due(OUTSIDE, x.make(0, 5, 41));
        due(9, x.searched(0));
        int findings = x.count(11);
        x.tell(0, 0);
        due(0, x.make(0, firstWithWay(2), 2));
        due(0, x.count(6));
        due(9, x.jam(0, 0, -1));
        due(findings, x.count(11));
        due(1, x.count(10));
        x.make(2, HIGH, 1);
        due(0, x.status());
    }

    private static int firstWithWay(int moves) {
        int n = 0;
        while (house().make(0, n, moves) != 0) {
            n++;
        }
        return n;
    }

    private static int drawn;

    private static int draw(int n) {
        drawn = drawn * 1103515245 + 12345;
        return (drawn >>> 16) % n;
    }

    /** The CHEST BY A NUMBER built by calls into CHEST 2, and compared. */
    private static void looksLike(PuzzleChests x, int number) {
        int[] seats = {0, 1, 4, 5};
        drawn = number;
        x.clear(2);
        x.row(2, 0, 2);
        x.row(2, 1, 2);
        for (int seat : seats) {
            int kind = draw(5), span = 2 + draw(3), side = draw(6);
            x.part(2, seat, kind, span, side);
        }
        for (int k = 0; k < 6; k++) {
            int of = k == 0 ? -1 : seats[draw(4)];
            int looks = seats[draw(4)];
            int n = x.told(2, looks, 0) == DRAWER ? 2 : x.told(2, looks, 1);
            x.condition(2, of, looks, n);
            for (int i = 0; i < n; i++) {
                x.truth(2, k, i, k == 0 ? i == n - 1 : draw(3) != 0);
            }
        }
        due(1, x.alike(0, 2));
    }

    private static void promise12() {
        PuzzleChests x = house();
        x.row(1, 1, 2);
        x.part(1, 5, LATCH, 4, 3);
        x.place(1, 5, 2);
        due(LATCH, x.told(1, 5, 0));
        due(4, x.told(1, 5, 1));
        due(2, x.told(1, 5, 2));
        due(3, x.told(1, 5, 3));
        due(UNKNOWN, x.told(1, 16, 4));
        due(UNKNOWN, x.told(1, 5, -1));
        due(UNKNOWN, x.told(3, 5, 0));
        due(OUTSIDE, x.told(1, 16, 0));
        due(OUTSIDE, x.told(1, -1, 0));
        due(NOTHING, x.told(1, 4, 0));
        due(BEYOND, x.told(1, 6, 0));
        due(NOTHING, x.told(1, 0, 0));
        x.part(1, 4, DRAWER, 2, 5);
        due(5, x.told(1, 4, 3));
    }

    private static void promise13() {
        PuzzleChests x = house();
        x.row(0, 0, 4);
        x.row(0, 1, 3);
        for (int kind = 0; kind < 6; kind++) {
            x.part(0, kind, kind, kind == BLANK ? 1 : 3, 0);
        }
        int[][] tells = {{0, 1, 2}, {1, 2, 0}, {0, 1, 2}, {2, 1, 0}, {0, 1, 1}};
        int[][] traces = {{1}, {2, 1}, {1}, {3, 1}, {4, 1}};
        for (int kind = 0; kind < 5; kind++) {
            for (int at = 0; at < 3; at++) {
                x.place(0, kind, at);
                due(tells[kind][at], x.tell(0, kind));
                traced(x, traces[kind]);
            }
        }
        due(UNLIKE, x.tell(0, 5));
        traced(x);
        x.tell(0, 0);
        due(UNKNOWN, x.tell(3, 0));
        traced(x);
        x.tell(0, 0);
        due(OUTSIDE, x.tell(0, 16));
        traced(x);
        due(OUTSIDE, x.tell(0, -1));
        due(NOTHING, x.tell(0, 6));
        due(BEYOND, x.tell(0, 7));
        due(NOTHING, x.tell(0, 8));
        x.part(0, 6, RING, 1, 0);
        due(0, x.tell(0, 6));
        x.part(0, 6, LATCH, 1, 0);
        due(0, x.tell(0, 6));
    }

    private static void promise14() {
        PuzzleChests x = house();
        x.condition(0, -1, 7, 2);
        x.condition(0, 15, 0, -1);
        x.condition(0, 1, 2, 6);
        x.truth(0, 0, 1, true);
        x.truth(0, 2, 5, true);
        due(-1, x.conditionTold(0, 0, 0));
        due(7, x.conditionTold(0, 0, 1));
        due(2, x.conditionTold(0, 0, 2));
        due(0, x.conditionTold(0, 0, 3));
        due(1, x.conditionTold(0, 0, 4));
        due(NONE, x.conditionTold(0, 0, 5));
        due(NONE, x.conditionTold(0, 0, 8));
        due(15, x.conditionTold(0, 1, 0));
        due(NONE, x.conditionTold(0, 1, 2));
        due(NONE, x.conditionTold(0, 1, 3));
        due(1, x.conditionTold(0, 2, 8));
        due(0, x.status());
        due(UNKNOWN, x.conditionTold(0, 0, 9));
        due(UNKNOWN, x.conditionTold(0, 0, -1));
        due(UNKNOWN, x.conditionTold(0, 3, 0));
        due(UNKNOWN, x.conditionTold(0, -1, 0));
        due(UNKNOWN, x.conditionTold(3, 0, 0));
        due(UNKNOWN, x.status());
    }

    private static void promise15() {
        PuzzleChests x = handled();
        x.condition(0, 0, 1, 2);
        x.condition(0, 0, 1, -1);
        x.condition(0, 0, 3, 6);
        x.condition(0, 0, 4, 6);
        x.truth(0, 0, 1, true);
        x.move(0, 1);
        due(1, x.count(10) > 0 ? 1 : 0);
        x.tell(0, 1);
        due(1, x.holds(0, 0));
        due(0, x.status());
        traced(x, 2, 1);
        x.place(0, 1, 2);
        due(0, x.holds(0, 0));
        x.place(0, 1, 1);
        int findings = x.count(11);
        due(BEYOND, x.holds(0, 0));
        due(BEYOND, x.status());
        due(NOTHING, x.holds(0, 1));
        due(UNLIKE, x.holds(0, 2));
        due(NOTHING, x.holds(0, 3));
        x.row(0, 1, 0);
        due(BEYOND, x.holds(0, 3));
        x.row(0, 1, 1);
        due(NOTHING, x.holds(0, 3));
        due(findings + 6, x.count(11));
        due(UNKNOWN, x.holds(0, 4));
        due(UNKNOWN, x.holds(0, -1));
        due(UNKNOWN, x.holds(3, 0));
        traced(x, 2, 1);
    }

    private static void promise16() {
        PuzzleChests x = handled();
        due(UNKNOWN, x.may(3, 99));
        due(OUTSIDE, x.may(0, 38));
        due(OUTSIDE, x.may(0, -1));
        due(0, x.may(0, 0));
        traced(x, 11);
        due(1, x.may(0, 1));
        traced(x, 11);
        due(1, x.may(0, 2));
        traced(x, 12);
        due(1, x.may(0, 3));
        due(0, x.may(0, 4));
        traced(x, 14);
        due(1, x.may(0, 5));
        x.place(0, 2, 2);
        due(0, x.may(0, 5));
        due(1, x.may(0, 4));
        due(0, x.count(11));
        due(0, x.may(0, 6));
        traced(x);
        due(0, x.status());
        due(3, x.count(12));
        due(0, x.may(0, 9));
        due(1, x.count(12));
        due(2, x.count(11));
        for (int t = 32; t < 38; t++) {
            due(1, x.may(0, t));
            due(1, x.may(2, t));
        }
        traced(x);
        x.condition(0, 0, 1, 3);
        due(0, x.may(0, 1));
        traced(x, 11, 2, 1);
        x.truth(0, 0, 1, true);
        due(1, x.may(0, 1));
        due(0, x.may(0, 0));
        traced(x, 11);
        x.condition(0, 0, 3, 3);
        due(0, x.may(0, 1));
        due(3, x.count(11));
        due(0, x.status());
        due(0, x.state(0) - 24);
        x.jam(0, 0, 1);
        due(1, x.may(0, 2));
        due(UNKNOWN, x.may(-1, 0));
        traced(x);
    }

    private static void promise17() {
        PuzzleChests x = handled();
        x.row(0, 1, 2);
        x.part(0, 4, PIN, 2, 0);
        due(UNKNOWN, x.barredBy(3, 99));
        due(UNKNOWN, x.status());
        due(-6, x.barredBy(0, 38));
        due(-6, x.status());
        due(-6, x.barredBy(0, -1));
        due(NONE, x.barredBy(0, 1));
        due(-3, x.barredBy(0, 0));
        due(0, x.status());
        due(NONE, x.barredBy(0, 37));
        due(UNLIKE, x.barredBy(0, 6));
        due(UNLIKE, x.status());
        due(UNLIKE, x.barredBy(0, 8));
        due(NOTHING, x.barredBy(0, 10));
        due(BEYOND, x.barredBy(0, 13));
        due(NOTHING, x.barredBy(0, 16));
        due(5, x.count(11));
        x.condition(0, 5, 0, 0);
        x.condition(0, 0, 1, 3);
        x.condition(0, 0, 2, -1);
        x.condition(0, 0, 2, 3);
        due(-3, x.barredBy(0, 0));
        traced(x, 11);
        due(1, x.barredBy(0, 1));
        traced(x, 11, 2, 1);
        x.truth(0, 1, 1, true);
        due(2, x.barredBy(0, 1));
        traced(x, 11, 2, 1, 4, 1);
        due(0, x.status());
        due(6, x.count(11));
        due(1, x.count(12));
        x.tell(0, 0);
        x.barredBy(0, 99);
        traced(x);
    }

    private static void promise18() {
        PuzzleChests x = handled();
        due(UNKNOWN, x.isOpen(3));
        due(UNKNOWN, x.isOpen(-1));
        x.condition(0, 0, 0, 0);
        due(0, x.isOpen(0));
        traced(x);
        x.condition(0, -1, 0, 1);
        due(0, x.isOpen(0));
        traced(x, 1);
        x.truth(0, 1, 0, true);
        due(1, x.isOpen(0));
        x.condition(0, -1, 1, 2);
        x.condition(0, -1, 2, 2);
        x.truth(0, 3, 0, true);
        due(0, x.isOpen(0));
        traced(x, 1, 2, 1);
        x.truth(0, 2, 1, true);
        due(1, x.isOpen(0));
        traced(x, 1, 2, 1, 4, 1);
        due(0, x.count(11));
        x.condition(0, -1, 3, 2);
        due(0, x.isOpen(0));
        due(0, x.status());
        due(1, x.count(11));
        due(3, x.count(12));
        x.isOpen(9);
        traced(x);
    }

    private static void promise19() {
        PuzzleChests x = handled();
        due(36, x.product(0));
        due(1, x.product(1));
        due(UNKNOWN, x.product(3));
        due(UNKNOWN, x.product(-1));
        x.part(0, 0, LATCH, 6, 0);
        due(54, x.product(0));
        x.take(0, 0);
        due(9, x.product(0));
    }

    private static void promise20() {
        PuzzleChests x = handled();
        due(0, x.state(0));
        x.place(0, 0, 3);
        due(3, x.state(0));
        x.place(0, 1, 2);
        due(11, x.state(0));
        x.place(0, 2, 1);
        due(23, x.state(0));
        x.take(0, 1);
        due(7, x.state(0));
        due(UNKNOWN, x.state(3));
        due(UNKNOWN, x.state(-1));
    }

    private static void promise21() {
        PuzzleChests x = handled();
        due(0, x.ofNumber(0, 35));
        due(3, x.told(0, 0, 2));
        due(2, x.told(0, 1, 2));
        due(2, x.told(0, 2, 2));
        due(35, x.ofNumber(0, 13));
        due(1, x.told(0, 0, 2));
        due(0, x.told(0, 1, 2));
        due(1, x.told(0, 2, 2));
        due(OUTSIDE, x.ofNumber(0, 36));
        due(OUTSIDE, x.ofNumber(0, -1));
        due(UNKNOWN, x.ofNumber(3, -1));
        due(13, x.state(0));
        due(0, x.ofNumber(1, 0));
        due(OUTSIDE, x.ofNumber(1, 1));
    }

    private static void promise22() {
        PuzzleChests x = handled();
        due(0, x.place(0, 0, 3));
        due(3, x.place(0, 0, 1));
        due(UNKNOWN, x.place(3, 99, 0));
        due(OUTSIDE, x.place(0, 16, 9));
        due(OUTSIDE, x.place(0, -1, 0));
        due(NOTHING, x.place(0, 4, 9));
        due(BEYOND, x.place(0, 0, 4));
        due(BEYOND, x.place(0, 0, -1));
        due(BEYOND, x.place(0, 3, 1));
        due(0, x.place(0, 3, 0));
        x.row(0, 1, 1);
        due(BEYOND, x.place(0, 5, 0));
        due(1, x.told(0, 0, 2));
        x.move(0, 1);
        x.search(0, 9);
        x.place(0, 0, 0);
        due(1, x.count(6));
        due(0, x.searched(5));
    }

    private static void promise23() {
        PuzzleChests x = handled();
        due(UNKNOWN, x.move(3, 99));
        due(OUTSIDE, x.move(0, 38));
        due(OUTSIDE, x.move(0, -1));
        due(0, x.move(0, 0));
        due(1, x.move(0, 1));
        traced(x, 11);
        due(1, x.state(0));
        due(1, x.move(0, 0));
        due(1, x.move(0, 2));
        traced(x, 12);
        due(2, x.told(0, 1, 2));
        due(1, x.move(0, 3));
        due(0, x.told(0, 1, 2));
        due(1, x.move(0, 5));
        due(1, x.move(0, 5));
        due(0, x.move(0, 5));
        due(2, x.told(0, 2, 2));
        due(0, x.move(0, 6));
        due(0, x.status());
        due(1, x.count(11));
        due(6, x.count(6));
        stuck();
        tilts();
        latches();
    }

    private static void stuck() {
        PuzzleChests x = handled();
        x.jam(0, 42, 0);
        due(0, x.move(0, 0));
        due(0, x.count(11));
        due(JAM, x.move(0, 1));
        due(JAM, x.status());
        due(5, x.count(12));
        traced(x, 11);
        due(0, x.state(0));
        due(0, x.count(6));
        due(1, x.move(0, 3));
        x.jam(0, 0, 0);
        due(NOTHING, x.move(0, 1));
        due(NOTHING, x.status());
        due(2, x.count(11));
        x.condition(0, 0, 0, 0);
        due(0, x.move(0, 1));
        due(2, x.count(12));
        x.part(0, 0, PIN, 3, 1);
        x.clear(1);
        x.row(1, 0, 1);
        x.part(1, 0, PIN, 3, 1);
        x.jam(1, 5, 0);
        due(1, x.move(1, 33));
        due(2, x.state(1));
    }

    private static void tilts() {
        PuzzleChests x = house();
        x.row(0, 0, 4);
        x.part(0, 0, PIN, 4, 2);
        x.part(0, 1, PIN, 3, 3);
        x.part(0, 2, PIN, 3, 4);
        x.part(0, 3, BAR, 2, 2);
        x.place(0, 1, 1);
        x.place(0, 2, 1);
        due(1, x.move(0, 34));
        traced(x, 13, 13);
        due(3, x.told(0, 0, 2));
        due(0, x.told(0, 1, 2));
        due(1, x.told(0, 2, 2));
        due(0, x.told(0, 3, 2));
        due(1, x.move(0, 35));
        due(0, x.told(0, 0, 2));
        due(2, x.told(0, 1, 2));
        due(1, x.move(0, 36));
        traced(x, 13);
        due(2, x.told(0, 2, 2));
        due(1, x.move(0, 32));
        traced(x);
        due(4, x.count(6));
        // a PIN that holds itself up behind two steps, asked ahead of each
        x.condition(0, 0, 0, 2);
        x.truth(0, 0, 0, true);
        x.truth(0, 0, 1, true);
        x.move(0, 34);
        traced(x, 13, 1, 1, 1, 13);
        due(2, x.told(0, 0, 2));
        due(2, x.count(12));
        due(1, x.count(11));
        due(0, x.status());
    }

    private static void latches() {
        PuzzleChests x = house();
        x.row(0, 0, 3);
        x.part(0, 0, LATCH, 3, 0);
        x.part(0, 1, LATCH, 3, 1);
        x.part(0, 2, LATCH, 1, 0);
        x.place(0, 0, 1);
        x.place(0, 1, 1);
        due(1, x.move(0, 33));
        traced(x, 15, 13, 15, 13, 15);
        due(0, x.told(0, 0, 2));
        due(2, x.told(0, 1, 2));
        due(1, x.move(0, 32));
        traced(x, 15, 13, 15, 15);
        due(2, x.told(0, 0, 2));
        due(2, x.told(0, 1, 2));
        due(1, x.move(0, 33));
        traced(x, 15, 15, 15);
        due(2, x.told(0, 0, 2));
        due(UNKNOWN, x.move(-1, 33));
        traced(x);
        // by SEATS: the second one's CONDITION looks at where the first one has fallen
        x.row(0, 0, 2);
        x.part(0, 0, PIN, 2, 0);
        x.part(0, 1, PIN, 2, 0);
        x.condition(0, 1, 0, 2);
        x.truth(0, 0, 1, true);
        x.move(0, 32);
        due(3, x.state(0));
        traced(x, 13, 13, 1);
    }

    private static void promise24() {
        PuzzleChests x = house();
        due(OUTSIDE, x.type(38));
        due(OUTSIDE, x.type(-1));
        for (int i = 1; i <= 40; i++) {
            due(i, x.type(i % 38));
        }
        due(FULL, x.type(0));
        due(OUTSIDE, x.type(38));
        due(40, x.count(9));
        due(OUTSIDE, x.status());
    }

    private static void promise25() {
        PuzzleChests x = house();
        due(0, x.untype());
        x.type(32);
        x.type(33);
        due(2, x.untype());
        due(0, x.count(9));
        due(0, x.untype());
        due(1, x.type(5));
        x.type(99);
        due(1, x.untype());
        due(0, x.status());
    }

    private static void promise26() {
        PuzzleChests x = twoBars();
        due(UNKNOWN, x.play(3));
        due(0, x.play(0));
        type(x, 1, 3, 1, 3, 3, 0, 1);
        due(1, x.play(0));
        traced(x, 11, 11, 1);
        due(1, x.state(0));
        due(1, x.count(6));
        type(x, 1, 3, 3, 0);
        due(4, x.play(0));
        due(7, x.state(0));
        due(5, x.count(6));
        due(8, x.back(0));
        due(5, x.back(0));
        due(0, x.count(11));
        x.ofNumber(0, 0);
        x.jam(0, 3, 1);
        type(x, 1, 1, 3, 0);
        due(2, x.play(0));
        due(0, x.status());
        due(5, x.count(12));
        x.jam(0, 0, 1);
        type(x, 32, 3);
        due(1, x.play(0));
        due(1, x.count(12));
        type(x, 4);
        due(0, x.play(0));
        due(0, x.status());
        due(2, x.count(12));
        due(3, x.count(11));
        due(UNKNOWN, x.play(-1));
        traced(x);
    }

    private static void promise27() {
        PuzzleChests x = twoBars();
        due(UNKNOWN, x.attempt(3));
        due(0, x.attempt(0));
        traced(x, 1);
        x.move(0, 1);
        type(x, 1, 3);
        due(0, x.attempt(0));
        traced(x, 11, 11, 1, 1);
        due(1, x.state(0));
        due(1, x.count(6));
        type(x, 1, 3, 3, 3);
        due(0, x.attempt(0));
        due(1, x.state(0));
        due(1, x.count(6));
        type(x, 1, 3, 3);
        due(1, x.attempt(0));
        due(8, x.state(0));
        due(4, x.count(6));
        due(5, x.back(0));
        due(2, x.back(0));
        due(1, x.back(0));
        due(0, x.back(0));
        x.jam(0, 9, 1);
        type(x, 1, 1, 3, 3);
        due(0, x.attempt(0));
        due(0, x.status());
        due(0, x.state(0));
        due(0, x.count(6));
        due(5, x.count(12));
        x.jam(0, 0, -1);
        x.ofNumber(0, 8);
        x.untype();
        due(1, x.attempt(0));
        due(0, x.count(6));
        keptThroughAttempts();
        due(UNKNOWN, x.attempt(-1));
        traced(x);
    }

    /** An attempt that fails must not have pushed out what was kept. */
    private static void keptThroughAttempts() {
        PuzzleChests x = twoBars();
        for (int i = 0; i < 15; i++) {
            x.move(0, 1);
            x.move(0, 0);
        }
        type(x, 1, 1, 0, 0, 1, 1, 0, 0);
        due(0, x.attempt(0));
        due(30, x.count(6));
        for (int i = 0; i < 15; i++) {
            due(1, x.back(0));
            due(0, x.back(0));
        }
        due(STATE, x.back(0));
    }

    private static void promise28() {
        PuzzleChests x = twoBars();
        due(UNKNOWN, x.attempted(3));
        due(UNKNOWN, x.attempted(-1));
        type(x, 1, 3, 3);
        x.attempt(0);
        due(1, x.attempted(0));
        due(3, x.attempted(1));
        due(0, x.attempted(2));
        x.attempt(7);
        x.play(0);
        due(1, x.attempted(0));
        x.back(0);
        type(x, 1, 1);
        x.attempt(0);
        due(2, x.attempted(0));
        due(NONE, x.attempted(1));
        due(0, x.attempted(2));
        x.jam(0, 9, 1);
        type(x, 1, 1, 3, 3);
        x.attempt(0);
        due(2, x.attempted(0));
        due(3, x.attempted(1));
        due(5, x.attempted(2));
        x.jam(0, 0, 1);
        x.attempt(0);
        due(1, x.attempted(2));
        type(x, 1, 9);
        x.attempt(0);
        due(1, x.attempted(0));
        due(9, x.attempted(1));
        due(0, x.attempted(2));
        due(0, x.status());
        x.jam(0, 0, -1);
        type(x, 1, 1, 3, 3);
        due(1, x.attempt(0));
        due(4, x.attempted(0));
        due(NONE, x.attempted(1));
        x.jam(0, 9, 1);
        type(x, 2);
        x.attempt(0);
        due(5, x.attempted(2));
        x.untype();
        due(1, x.attempt(0));
        due(0, x.attempted(0));
        due(NONE, x.attempted(1));
        due(0, x.attempted(2));
    }

    private static void promise29() {
        PuzzleChests x = twoBars();
        due(UNKNOWN, x.back(3));
        due(STATE, x.back(0));
        due(STATE, x.status());
        x.move(0, 1);
        x.move(0, 0);
        x.move(0, 0);
        due(2, x.count(6));
        x.place(0, 1, 2);
        due(1, x.back(0));
        due(1, x.state(0));
        x.ofNumber(0, 5);
        due(0, x.back(0));
        due(0, x.state(0));
        due(STATE, x.back(0));
        x.move(0, 33);
        due(0, x.back(0));
        for (int i = 0; i < 31; i++) {
            x.move(0, i % 2 == 0 ? 1 : 0);
        }
        due(30, x.count(6));
        for (int i = 0; i < 30; i++) {
            due(i % 2, x.back(0));
        }
        due(STATE, x.back(0));
        due(1, x.state(0));
        letGo();
    }

    /** Each call that builds lets go what is kept, of its CHEST alone; one refused or with a FINDING does not. */
    private static void letGo() {
        for (int i = 0; i < 12; i++) {
            PuzzleChests x = twoBars();
            x.copy(0, 1);
            x.move(0, 1);
            x.move(1, 1);
            x.row(0, 0, -2);
            x.part(0, 2, BAR, 2, 0);
            x.take(0, 2);
            x.condition(0, 16, 0, 0);
            x.truth(0, 0, 3, true);
            x.copyTruths(0, 0, 0, 1, 0, 4);
            x.copy(0, 3);
            x.copy(0, 2);
            x.make(0, 1, 41);
            x.jam(0, 1, 1);
            due(1, x.count(6));
            boolean kept = buildSomehow(x, i);
            due(kept ? 1 : 0, x.count(6));
            due(1, x.count(7));
        }
    }

    private static boolean buildSomehow(PuzzleChests x, int how) {
        switch (how) {
            case 0: due(1, x.row(0, 3, -1)); return false;
            case 1: due(2, x.part(0, 1, BAR, 3, 0)); return false;
            case 2: due(1, x.take(0, 1)); return false;
            case 3: due(2, x.condition(0, 9, 9, 0)); return false;
            case 4: due(1, x.truth(0, 0, 2, true)); return false;
            case 5: due(0, x.copyTruths(0, 0, 0, 1, 0, 0)); return false;
            case 6: due(2, x.clear(0)); return false;
            case 7: due(2, x.copy(0, 0)); return false;
            case 8: due(2, x.copy(1, 0)); return false;
            case 9: due(0, x.make(0, firstWithWay(1), 1)); return false;
            case 10: due(NONE, x.make(0, 5, 40)); return true;
            default: due(1, x.jam(0, 0, 0)); return true;
        }
    }

    private static void promise30() {
        PuzzleChests x = twoBars();
        due(UNKNOWN, x.search(3, 0));
        due(OUTSIDE, x.search(0, 0));
        due(OUTSIDE, x.search(0, 1001));
        due(OUTSIDE, x.search(0, -1));
        due(NONE, x.searched(0));
        due(0, x.search(0, 8));
        due(1, x.search(0, 9));
        due(9, x.searched(1));
        due(1, x.search(1, 1));
        due(1, x.searched(0));
        x.ofNumber(0, 4);
        int findings = x.count(11);
        x.condition(0, 0, 15, 1);
        x.tell(0, 0);
        due(1, x.search(0, 1000));
        due(findings, x.count(11));
        traced(x, 1);
        due(4, x.state(0));
        due(4, x.searched(6));
        due(1, x.searched(0));
        x.jam(0, 0, 0);
        PuzzleChests y = twoBars();
        y.jam(0, 3, 0);
        due(1, y.search(0, 1000));
        due(9, y.searched(0));
        searchOfAll();
    }

    /** 1024 states, more than one call may take; and a PIN that falls all the way stands at its ends alone. */
    private static void searchOfAll() {
        PuzzleChests x = house();
        x.row(0, 0, 4);
        x.row(0, 1, 1);
        for (int seat = 0; seat < 5; seat++) {
            x.part(0, seat, RING, 4, 0);
        }
        due(0, x.search(0, 1000));
        due(1000, x.searched(1));
        due(1, x.goOn(24));
        due(1024, x.searched(0));
        due(1024, x.searched(1));
        due(11, x.searched(2));
        due(1024, x.traps());
        x.part(0, 4, PIN, 4, 0);
        due(0, x.search(0, 511));
        due(1, x.search(0, 512));
        due(512, x.searched(0));
    }

    private static void promise31() {
        PuzzleChests x = twoBars();
        due(OUTSIDE, x.goOn(0));
        due(OUTSIDE, x.goOn(1001));
        due(STATE, x.goOn(1));
        due(0, x.search(0, 1));
        x.ofNumber(0, 7);
        due(0, x.goOn(3));
        due(4, x.searched(1));
        due(7, x.state(0));
        due(0, x.goOn(4));
        due(1, x.goOn(1));
        due(9, x.searched(1));
        due(1, x.goOn(1000));
        due(9, x.searched(1));
        x.search(0, 1);
        x.truth(0, 0, 2, true);
        due(OUTSIDE, x.goOn(0));
        due(STATE, x.goOn(1));
        due(1, x.searched(1));
        x.search(0, 1);
        x.make(2, 5, 40);
        due(STATE, x.goOn(1));
    }

    private static void promise32() {
        PuzzleChests x = twoBars();
        due(UNKNOWN, x.searched(7));
        due(UNKNOWN, x.searched(-1));
        for (int what = 0; what < 7; what++) {
            due(NONE, x.searched(what));
        }
        due(0, x.status());
        x.copy(0, 1);
        x.ofNumber(1, 1);
        x.search(1, 1);
        int[] first = {3, 1, 2, 1, 0, 0, 1};
        for (int what = 0; what < 7; what++) {
            due(first[what], x.searched(what));
        }
        x.goOn(1000);
        int[] then = {9, 9, 6, 1, 1, 0, 1};
        x.ofNumber(1, 8);
        for (int what = 0; what < 7; what++) {
            due(then[what], x.searched(what));
        }
        over();
    }

    /** Which calls end a search, and which do not. */
    private static void over() {
        for (int i = 0; i < 9; i++) {
            PuzzleChests x = twoBars();
            x.copy(0, 1);
            x.search(0, 1000);
            x.row(0, 0, -2);
            x.part(0, 2, BAR, 2, 0);
            x.take(0, 2);
            x.condition(0, 0, 0, 7);
            x.truth(0, 0, 3, true);
            x.copyTruths(0, 0, 0, 1, 0, 4);
            x.copy(0, 2);
            x.clear(1);
            x.copy(0, 1);
            x.jam(0, 3, 1);
            x.place(0, 0, 1);
            x.ofNumber(0, 0);
            x.move(0, 1);
            x.back(0);
            due(0, x.searched(5));
            due(1, x.search(0, 1000));
            buildSomehow(x, i);
            due(1, x.searched(5));
            due(9, x.searched(0));
        }
    }

    private static void promise33() {
        PuzzleChests x = twoBars();
        due(NONE, x.ordered(0));
        x.ofNumber(0, 1);
        x.search(0, 1000);
        // layers from 1: {1}, {0, 2}, {5}, {4, 8}, {3, 7}, {6}
        int[] numbers = {1, 0, 2, 5, 4, 8, 3, 7, 6};
        for (int i = 0; i < 9; i++) {
            due(numbers[i], x.ordered(i));
        }
        due(NONE, x.ordered(9));
        due(NONE, x.ordered(-1));
        due(NONE, x.ordered(HIGH));
        due(0, x.status());
        x.clear(0);
        due(5, x.ordered(3));
    }

    private static void promise34() {
        PuzzleChests x = twoBars();
        due(NONE, x.layer(0));
        x.search(0, 3);
        int[] layers = {0, 1, 2, NONE, NONE, 3, NONE, NONE, NONE};
        for (int i = 0; i < 9; i++) {
            due(layers[i], x.layer(i));
        }
        due(NONE, x.layer(-1));
        due(NONE, x.layer(1023));
        due(NONE, x.layer(1024));
        due(NONE, x.layer(LOW));
        x.clear(0);
        due(3, x.layer(5));
        x.search(1, 1);
        due(NONE, x.layer(5));
    }

    private static void promise35() {
        PuzzleChests x = twoBars();
        due(STATE, x.shortest());
        x.search(0, 1);
        due(SPENT, x.shortest());
        due(0, x.status());
        x.goOn(3);
        // 8 was come to as 5 was taken, though the search is not whole
        due(4, x.shortest());
        due(0, x.searched(4));
        x.goOn(1000);
        due(4, x.shortest());
        x.truth(0, 1, 2, true);
        due(STATE, x.shortest());
        x.truth(0, 1, 2, false);
        x.search(0, 1000);
        due(NONE, x.shortest());
        x.truth(0, 1, 0, true);
        x.search(0, 1);
        due(0, x.shortest());
    }

    private static void promise36() {
        PuzzleChests x = twoBars();
        due(NONE, x.way(0));
        x.search(0, 3);
        due(NONE, x.way(0));
        x.goOn(1000);
        int[] moves = {1, 1, 3, 3};
        for (int k = 0; k < 4; k++) {
            due(moves[k], x.way(k));
        }
        due(NONE, x.way(4));
        due(NONE, x.way(-1));
        due(0, x.status());
        x.clear(0);
        due(3, x.way(2));
        PuzzleChests y = house();
        y.row(0, 0, 1);
        y.part(0, 0, RING, 4, 0);
        y.condition(0, -1, 0, 4);
        y.truth(0, 0, 3, true);
        y.search(0, 1000);
        // two ways of two moves: the state behind "one lower" was come to first
        due(2, y.shortest());
        due(0, y.way(0));
        due(0, y.way(1));
    }

    private static void promise37() {
        PuzzleChests x = twoBars();
        due(NONE, x.along(0));
        x.search(0, 3);
        due(NONE, x.along(0));
        x.goOn(1000);
        int[] numbers = {0, 1, 2, 5, 8};
        for (int k = 0; k < 5; k++) {
            due(numbers[k], x.along(k));
        }
        due(NONE, x.along(5));
        due(NONE, x.along(-1));
        x.clear(0);
        due(5, x.along(3));
        x.make(1, 5, 40);
        due(NONE, x.along(0));
    }

    private static void promise38() {
        PuzzleChests x = withTraps();
        due(STATE, x.trap(0));
        x.search(0, 1);
        due(STATE, x.trap(0));
        x.goOn(1000);
        due(12, x.searched(0));
        // the LATCH up (numbers 3 to 5, 9 to 11) bars SEAT 2: OPEN are 6 and above
        for (int number = 0; number < 12; number++) {
            due(number >= 3 && number < 6 ? 1 : 0, x.trap(number));
        }
        due(NONE, x.trap(12));
        due(NONE, x.trap(-1));
        due(NONE, x.trap(HIGH));
        due(0, x.status());
        x.truth(0, 0, 1, true);
        due(STATE, x.trap(0));
    }

    private static void promise39() {
        PuzzleChests x = withTraps();
        due(STATE, x.traps());
        x.search(0, 1);
        due(STATE, x.traps());
        x.goOn(1000);
        due(3, x.traps());
        x.truth(0, 2, 1, true);
        due(STATE, x.traps());
        x.truth(0, 2, 1, false);
        x.search(0, 1000);
        due(x.searched(0), x.traps());
        manyRoads();
    }

    /** As many neighbours as states can have, ways between the same two states, and searches one behind the other. */
    private static void manyRoads() {
        PuzzleChests x = house();
        int[][] spans = {{4, 4, 4, 4, 4}, {2, 2, 2, 2, 2, 2, 2, 2, 2, 2}, {3, 3, 3, 3, 3, 4}, {1, 6, 6, 6, 4}, {5}};
        int[] numbers = {1024, 1024, 972, 864, 5};
        for (int i = 0; i < 10; i++) {
            int[] row = spans[i % 5];
            x.clear(0);
            for (int r = 0; r < 4; r++) {
                x.row(0, r, 4);
            }
            for (int seat = 0; seat < row.length; seat++) {
                x.part(0, seat, RING, row[seat], 0);
            }
            int last = row.length - 1;
            x.condition(0, -1, last, row[last]);
            x.truth(0, 0, row[last] - 1, true);
            x.search(0, 1000);
            due(1, x.goOn(1000));
            due(numbers[i % 5], x.searched(0));
            due(0, x.traps());
            due(1, x.shortest() >= 0 ? 1 : 0);
            x.truth(0, 0, row[last] - 1, false);
            x.search(0, 1000);
            x.goOn(1000);
            due(numbers[i % 5], x.traps());
        }
    }

    private static void promise40() {
        PuzzleChests x = withTraps();
        due(UNKNOWN, x.hint(3));
        due(STATE, x.hint(0));
        x.search(0, 2);
        due(STATE, x.hint(0));
        x.goOn(1000);
        due(STATE, x.hint(1));
        due(1, x.hint(0));
        x.ofNumber(0, 2);
        due(5, x.hint(0));
        x.ofNumber(0, 3);
        due(NONE, x.hint(0));
        x.ofNumber(0, 8);
        due(NONE, x.hint(0));
        due(0, x.status());
        x.ofNumber(0, 0);
        x.jam(0, 5, 0);
        due(1, x.hint(0));
        x.truth(0, 0, 0, true);
        due(STATE, x.hint(0));
        PuzzleChests y = twoBars();
        y.search(0, 1000);
        y.ofNumber(0, 7);
        // 7 is OPEN; from 3 the other bar must first go back up
        due(NONE, y.hint(0));
        y.ofNumber(0, 3);
        due(1, y.hint(0));
        y.ofNumber(0, 5);
        due(3, y.hint(0));
        y.truth(0, 1, 0, true);
        y.truth(0, 1, 2, false);
        y.ofNumber(0, 5);
        y.search(0, 1000);
        due(2, y.hint(0));
        y.ofNumber(0, 4);
        due(1, y.hint(0));
        y.truth(0, 1, 2, true);
        y.truth(0, 1, 0, false);
        y.ofNumber(0, 0);
        hintsDown();
        y.take(0, 1);
        y.part(0, 1, PIN, 3, 0);
        y.search(0, 1000);
        y.ofNumber(0, 2);
        due(32, y.hint(0));
        y.ofNumber(0, 1);
        int findings = y.count(11);
        y.tell(0, 0);
        due(1, y.hint(0));
        due(findings, y.count(11));
        traced(y, 1);
        due(1, y.state(0));
        // a state that can't be come to
        y.truth(0, 0, 2, false);
        y.ofNumber(0, 0);
        y.search(0, 1000);
        y.ofNumber(0, 3);
        due(NONE, y.hint(0));
    }

    private static void hintsDown() {
        PuzzleChests x = house();
        x.row(0, 0, 1);
        x.part(0, 0, BAR, 4, 0);
        x.condition(0, -1, 0, 1);
        x.truth(0, 0, 0, true);
        x.ofNumber(0, 3);
        x.search(0, 1000);
        due(0, x.hint(0));
        x.part(0, 0, RING, 4, 0);
        x.truth(0, 0, 0, true);
        x.ofNumber(0, 1);
        // OPEN is AT 3, two moves either way: the lesser move is told
        x.search(0, 1000);
        due(0, x.hint(0));
    }

    private static void promise41() {
        PuzzleChests x = house();
        due(OUTSIDE, x.mark(-1, 1, true));
        due(OUTSIDE, x.mark(0, -1, true));
        due(OUTSIDE, x.mark(1025, 0, true));
        due(OUTSIDE, x.mark(0, 1025, true));
        due(OUTSIDE, x.mark(1, 1024, true));
        due(OUTSIDE, x.mark(HIGH, HIGH, true));
        due(OUTSIDE, x.mark(1, HIGH, true));
        due(0, x.count(13));
        due(0, x.mark(1024, 0, true));
        due(3, x.mark(2, 3, true));
        due(2, x.mark(3, 4, true));
        due(5, x.count(13));
        due(1, x.mark(6, 10, false));
        due(4, x.count(13));
        due(1020, x.mark(0, 1024, true));
        due(1, x.marked(1023));
        due(1024, x.mark(0, 1024, false));
        due(0, x.mark(0, 1024, false));
    }

    private static void promise42() {
        PuzzleChests x = twoBars();
        x.mark(4, 100, true);
        due(STATE, x.markAll());
        due(100, x.count(13));
        x.search(0, 2);
        due(3, x.markAll());
        due(3, x.count(13));
        due(1, x.marked(0));
        due(1, x.marked(2));
        due(0, x.marked(4));
        x.goOn(1000);
        x.ofNumber(0, 1);
        x.search(0, 3);
        x.mark(0, 1, true);
        due(4, x.markAll());
        due(4, x.count(13));
        x.search(1, 1);
        x.mark(0, 9, true);
        due(1, x.markAll());
        due(1, x.count(13));
        due(0, x.search(0, 1));
        due(1, x.goOn(1000));
        x.clear(0);
        due(9, x.markAll());
        due(9, x.count(13));
        x.make(0, 5, 40);
        due(STATE, x.markAll());
        due(STATE, x.status());
    }

    private static void promise43() {
        PuzzleChests x = house();
        x.mark(1023, 1, true);
        due(0, x.marked(0));
        due(1, x.marked(1023));
        due(NONE, x.marked(1024));
        due(NONE, x.marked(-1));
        due(NONE, x.marked(LOW));
        due(0, x.status());
    }

    private static void promise44() {
        PuzzleChests x = withTraps();
        due(UNKNOWN, x.shows(3));
        due(UNKNOWN, x.shows(-1));
        due(0, x.shows(0));
        // the traps show it, and marks that are no numbers of the chest do not matter
        x.mark(3, 3, true);
        x.mark(12, 900, true);
        due(0, x.shows(0));
        x.ofNumber(0, 4);
        int findings = x.count(11);
        x.tell(0, 0);
        due(1, x.shows(0));
        due(findings, x.count(11));
        traced(x, 1);
        due(4, x.state(0));
        x.mark(6, 1, true);
        due(0, x.shows(0));
        x.mark(6, 1, false);
        x.mark(3, 1, false);
        due(0, x.shows(0));
        due(4, x.state(0));
        due(1, x.shows(1) + x.mark(0, 1, true));
        due(1, x.shows(1));
    }

    private static void shownIs(PuzzleChests x, int state, int move, int behind) {
        due(state, x.shown(0));
        due(move, x.shown(1));
        due(behind, x.shown(2));
        due(0, x.status());
    }

    private static void promise45() {
        PuzzleChests x = withTraps();
        due(UNKNOWN, x.shown(3));
        due(UNKNOWN, x.shown(-1));
        shownIs(x, NONE, NONE, NONE);
        x.ofNumber(0, 4);
        x.shows(0);
        shownIs(x, 4, -2, NONE);
        x.shows(3);
        shownIs(x, 4, -2, NONE);
        x.mark(3, 4, true);
        x.shows(0);
        shownIs(x, 6, NONE, NONE);
        x.mark(6, 1, false);
        x.shows(0);
        shownIs(x, NONE, NONE, NONE);
        x.mark(3, 1, false);
        x.shows(0);
        shownIs(x, 4, 0, 3);
        x.mark(2, 2, true);
        x.shows(0);
        shownIs(x, 2, 0, 1);
        x.mark(0, 2, true);
        x.shows(0);
        shownIs(x, 2, 5, 8);
        x.mark(0, 1024, false);
        x.mark(0, 3, true);
        x.ofNumber(0, 1);
        x.shows(0);
        // tilting to SIDE 4 lets the LATCH fall
        shownIs(x, 0, 36, 3);
    }

    private static void promise46() {
        PuzzleChests x = handled();
        due(UNKNOWN, x.alike(3, 0));
        due(UNKNOWN, x.alike(0, -1));
        due(1, x.alike(1, 2));
        due(1, x.alike(0, 0));
        due(0, x.alike(0, 1));
        x.copy(0, 1);
        due(1, x.alike(0, 1));
        x.place(1, 0, 1);
        due(0, x.alike(0, 1));
        x.place(1, 0, 0);
        x.jam(1, 0, 0);
        due(0, x.alike(0, 1));
        x.jam(1, 4, -1);
        due(0, x.alike(0, 1));
        x.jam(1, 0, -1);
        due(1, x.alike(1, 0));
        x.part(1, 0, BAR, 4, 1);
        due(0, x.alike(0, 1));
        x.copy(0, 1);
        x.condition(1, 0, 0, 0);
        due(0, x.alike(0, 1));
        x.condition(0, 0, 0, -1);
        due(0, x.alike(0, 1));
        x.row(2, 0, 0);
        x.clear(0);
        due(0, x.alike(0, 2));
    }

    private static void bytesAre(PuzzleChests x, int... bytes) {
        int all = 0;
        for (int i = 0; i < bytes.length; i++) {
            due(bytes[i], x.out(i));
            all ^= bytes[i];
        }
        due(all, x.out(bytes.length));
        due(NONE, x.out(bytes.length + 1));
    }

    private static void promise47() {
        PuzzleChests x = house();
        due(8, x.export(1));
        bytesAre(x, 255, 255, 255, 255, 0, 0, 0);
        x.row(1, 0, 2);
        x.row(1, 2, 0);
        x.part(1, 1, LATCH, 6, 5);
        x.place(1, 1, 4);
        x.condition(1, -1, 15, 3);
        x.truth(1, 0, 2, true);
        x.condition(1, 15, 0, -1);
        x.jam(1, 99, 15);
        due(8, x.export(0));
        due(UNKNOWN, x.export(3));
        due(UNKNOWN, x.export(-1));
        bytesAre(x, 255, 255, 255, 255, 0, 0, 0);
        due(22, x.export(1));
        bytesAre(x, 2, 0, 4, 6, 4, 5, 255, 0, 255, 2, 0, 15, 3, 0, 0, 1, 16, 0, 255, 99, 16);
        largest();
    }

    private static void largest() {
        PuzzleChests x = house();
        for (int row = 0; row < 4; row++) {
            x.row(0, row, 4);
            for (int place = 0; place < 4; place++) {
                x.part(0, 4 * row + place, BAR, 1, 0);
            }
        }
        for (int i = 0; i < 40; i++) {
            x.condition(0, 15, 15, 6);
        }
        due(432, x.export(0));
        due(40, x.out(68));
        due(NONE, x.out(432));
    }

    private static void promise48() {
        PuzzleChests x = house();
        due(NONE, x.out(0));
        x.jam(0, 7, 9);
        x.export(0);
        due(255, x.out(3));
        due(7, x.out(5));
        due(10, x.out(6));
        due(7 ^ 10, x.out(7));
        due(NONE, x.out(8));
        due(NONE, x.out(-1));
        due(NONE, x.out(HIGH));
        x.jam(0, 8, 9);
        due(7, x.out(5));
        x.alike(0, 1);
        x.digest(1);
        due(7, x.out(5));
    }

    private static void promise49() {
        PuzzleChests x = handled();
        x.condition(0, 1, 2, 3);
        x.truth(0, 0, 1, true);
        due(0, x.digest(3));
        due(0, x.digest(-1));
        for (int chest = 0; chest < 2; chest++) {
            long h = 1469598103934665603L;
            int n = x.export(chest);
            for (int i = 0; i < n; i++) {
                h = (h ^ x.out(i)) * 1099511628211L;
            }
            due(h, x.digest(chest));
        }
        due(x.digest(1), x.digest(2));
        x.place(0, 0, 1);
        long before = x.digest(0);
        x.place(0, 0, 2);
        due(0, before == x.digest(0) ? 1 : 0);
    }

    private static void promise50() {
        PuzzleChests x = house();
        x.row(0, 0, 2);
        x.part(0, 0, RING, 2, 0);
        for (int i = 0; i < 35; i++) {
            x.condition(0, -1, 0, 2);
            x.truth(0, i, 1, true);
        }
        due(1, x.isOpen(0));
        due(70, x.count(10));
        for (int i = 0; i < 60; i++) {
            due(i % 2 == 0 ? 2 : 1, x.trace(i));
        }
        due(NONE, x.trace(60));
        due(NONE, x.trace(69));
        due(NONE, x.trace(-1));
        due(NONE, x.trace(HIGH));
        x.told(0, 0, 0);
        x.holds(0, 0);
        x.state(0);
        x.search(0, 9);
        due(70, x.count(10));
        x.tell(0, 0);
        traced(x, 2, 1);
        type(x, 1, 1, 0);
        x.play(0);
        traced(x, 12, 12, 12);
        x.part(0, 0, PIN, 2, 0);
        x.part(0, 1, PIN, 2, 0);
        x.untype();
        for (int i = 0; i < 40; i++) {
            x.type(32);
        }
        due(40, x.play(0));
        due(80, x.count(10));
        due(13, x.trace(59));
        due(NONE, x.trace(60));
    }

    private static void promise51() {
        PuzzleChests x = house();
        due(UNKNOWN, x.count(14));
        due(UNKNOWN, x.count(-1));
        x.row(0, 0, 3);
        for (int i = 0; i < 3; i++) {
            x.part(0, i, RING, 2, 0);
            x.condition(0, 15, 0, 0);
        }
        x.copy(0, 1);
        x.take(1, 0);
        x.condition(1, 15, 0, 0);
        x.copy(0, 2);
        x.take(2, 0);
        x.take(2, 1);
        x.condition(2, 15, 0, 0);
        x.condition(2, 15, 0, 0);
        x.move(0, 1);
        for (int i = 0; i < 2; i++) {
            x.move(1, 3);
        }
        for (int i = 0; i < 3; i++) {
            x.move(2, 5);
        }
        x.type(3);
        x.type(3);
        x.mark(3, 7, true);
        x.take(2, 0);
        x.take(2, 3);
        x.tell(0, 0);
        int[] counts = {3, 2, 1, 3, 4, 5, 1, 2, 3, 2, 2, 2, 2, 7};
        for (int what = 0; what < 14; what++) {
            due(counts[what], x.count(what));
        }
    }

    private static void promise52() {
        PuzzleChests x = twoBars();
        due(0, x.status());
        x.told(3, 0, 0);
        due(UNKNOWN, x.status());
        // those that tell leave it
        x.alike(0, 9);
        x.export(0);
        x.export(9);
        x.out(0);
        x.digest(0);
        x.trace(0);
        x.count(0);
        x.count(99);
        due(UNKNOWN, x.status());
        due(UNKNOWN, x.status());
        x.type(1);
        due(0, x.status());
        x.count(99);
        x.alike(0, 9);
        x.export(9);
        due(0, x.status());
        x.back(0);
        due(STATE, x.status());
        x.untype();
        due(0, x.status());
        x.row(0, 0, -2);
        due(SIZE, x.status());
        x.way(0);
        due(0, x.status());
        x.type(99);
        due(OUTSIDE, x.status());
        x.shortest();
        due(STATE, x.status());
        x.marked(1);
        due(0, x.status());
        x.take(0, 9);
        due(NOTHING, x.status());
        x.may(0, 30);
        due(0, x.status());
        x.holds(0, 99);
        due(UNKNOWN, x.status());
        x.layer(0);
        due(0, x.status());
        x.shown(9);
        due(UNKNOWN, x.status());
        x.ordered(0);
        due(0, x.status());
        x.attempted(9);
        due(UNKNOWN, x.status());
        x.along(0);
        due(0, x.status());
    }

    private static void constants() {
        due(-1, PuzzleChests.NONE);
        due(-2, PuzzleChests.UNKNOWN);
        due(-3, PuzzleChests.OUTSIDE);
        due(-4, PuzzleChests.STATE);
        due(-5, PuzzleChests.FULL);
        due(-9, PuzzleChests.SPENT);
    }

    public static void main(String[] args) throws Exception {
        constants();
        for (promise = 1; promise <= 52; promise++) {
            PromiseTest.class.getDeclaredMethod("promise" + promise).invoke(null);
        }
        System.out.println(wrong == 0 ? "all 52 promises are kept" : wrong + " answers are not as due");
        System.exit(wrong == 0 ? 0 : 1);
    }
}
