/** Promises 46 to 52: what is told. */
public final class ToldTest extends Sentences {

    /** All but these calls, for sentences that hold for each of them: none of it is refused in a house that is busy. */
    private static final Call[] NOT_TRACED = {
        x -> x.row(2, 3, -1), x -> x.part(2, 0, BAR, 2, 0), x -> x.take(2, 0), x -> x.condition(2, 0, 0, 1),
        x -> x.truth(0, 0, 0, true), x -> x.copyTruths(0, 0, 0, 0, 1, 2), x -> x.jam(0, 1, 1), x -> x.clear(2),
        x -> x.copy(0, 2), x -> x.make(2, 5, 40), x -> x.told(0, 0, 0), x -> x.conditionTold(0, 0, 0), x -> x.holds(0, 0),
        x -> x.product(0), x -> x.state(0), x -> x.ofNumber(0, 0), x -> x.place(0, 0, 0), x -> x.type(0), x -> x.untype(),
        x -> x.attempted(0), x -> x.back(0), x -> x.search(0, 1), x -> x.goOn(1), x -> x.searched(0), x -> x.ordered(0),
        x -> x.layer(0), x -> x.shortest(), x -> x.way(0), x -> x.along(0), x -> whole(x).trap(0), x -> whole(x).traps(),
        x -> whole(x).hint(0), x -> x.mark(0, 1, true), x -> x.markAll(), x -> x.marked(0), x -> x.shows(0), x -> x.shown(0)};
    private static final Call[] TRACED = {
        x -> x.tell(0, 0), x -> x.may(0, 0), x -> x.barredBy(0, 0), x -> x.move(0, 1), x -> x.isOpen(0), x -> x.play(0),
        x -> x.attempt(0)};
    private static final Call[] TRACED_REFUSED = {
        x -> x.tell(3, 0), x -> x.tell(0, 16), x -> x.tell(0, 5), x -> x.may(3, 0), x -> x.may(0, 38), x -> x.barredBy(3, 0),
        x -> x.barredBy(0, 38), x -> x.barredBy(0, 10), x -> x.move(3, 0), x -> x.move(0, 38), x -> x.isOpen(3),
        x -> x.play(3), x -> x.attempt(3)};
    private static final Call[] NOT_TRACED_REFUSED = {
        x -> x.row(3, 0, 0), x -> x.part(3, 0, BAR, 2, 0), x -> x.take(0, 16), x -> x.take(0, 5), x -> x.condition(3, 0, 0, 1),
        x -> x.truth(3, 0, 0, true), x -> x.copyTruths(3, 0, 0, 0, 1, 2), x -> x.jam(3, 1, 1), x -> x.clear(3),
        x -> x.copy(0, 3), x -> x.make(3, 5, 40), x -> x.told(3, 0, 0), x -> x.told(0, 5, 0), x -> x.conditionTold(3, 0, 0),
        x -> x.holds(3, 0), x -> x.holds(0, 1), x -> x.product(3), x -> x.state(3), x -> x.ofNumber(3, 0), x -> x.place(3, 0, 0),
        x -> x.type(38), x -> x.attempted(3), x -> x.back(3), x -> x.search(3, 1), x -> x.goOn(0), x -> x.searched(7),
        x -> x.hint(3), x -> x.trap(0), x -> x.traps(), x -> x.mark(-1, 1, true), x -> x.shows(3), x -> x.shown(3)};
    private static final Call[] TELLING = {
        x -> x.alike(0, 1), x -> x.alike(0, 3), x -> x.export(0), x -> x.export(3), x -> x.out(0), x -> x.out(-1),
        x -> (int) x.digest(0), x -> (int) x.digest(3), x -> x.trace(0), x -> x.trace(-1), x -> x.count(0), x -> x.count(14),
        x -> x.status()};

    private static PuzzleChests whole(PuzzleChests x) {
        x.goOn(1000);
        return x;
    }

    private static void differs(String words, Call change) {
        sentence(46, "0: " + words, () -> {
            PuzzleChests x = busy();
            x.copy(0, 1);
            due(1, x.alike(0, 1));
            change.on(x);
            due(0, x.alike(0, 1));
            due(0, x.alike(1, 0));
        });
    }

    /** A PART stands anew, and where the one before it was AT. */
    private static int anew(PuzzleChests x, int kind, int span, int side) {
        x.part(1, 0, kind, span, side);
        return x.place(1, 0, 1);
    }

    private static void alike() {
        sentence(46, "1, also of one CHEST with itself, and of those as at first", () -> {
            PuzzleChests x = busy();
            for (int chest = 0; chest < 3; chest++) {
                due(1, x.alike(chest, chest));
            }
            due(1, house().alike(1, 2));
        });
        sentence(46, "1, though what is kept, the SEARCH and all else differ", () -> {
            PuzzleChests x = busy();
            x.copy(0, 1);
            x.move(1, 1);
            x.move(1, 0);
            due(1, x.alike(0, 1));
        });
        sentence(46, "1 of shorter ones, behind a look at one that is longer", () -> {
            PuzzleChests x = busy();
            x.clear(1);
            x.clear(2);
            // the first byte behind those of the shorter ones is this SIDE, and must not be 0
            x.part(0, 1, RING, 4, 5);
            due(0, x.alike(0, 1));
            due(1, x.alike(1, 2));
            due(0, x.alike(1, 0));
            due(1, x.alike(1, 2));
        });
        differs("a ROW is NOTHING, the other one has no PLACES", x -> x.row(1, 3, 0));
        differs("a ROW has one PLACE more", x -> x.row(1, 2, 1));
        differs("a PART is gone", x -> x.take(1, 3));
        differs("KIND", x -> anew(x, RING, 3, 0));
        differs("SPAN", x -> anew(x, BAR, 4, 0));
        differs("AT", x -> x.place(1, 0, 2));
        differs("SIDE, of a BAR, too", x -> anew(x, BAR, 3, 1));
        differs("a CONDITION more", x -> x.condition(1, 0, 0, 0));
        differs("a TRUTH", x -> x.truth(1, 0, 1, true));
        differs("the JAM", x -> x.jam(1, 8, 4));
        differs("the SEAT that STICKS", x -> x.jam(1, 9, 3));
        sentence(46, "0: what a CONDITION is of, LOOKS at, and has", () -> {
            int[][] others = {{1, 0, 2}, {-1, 0, 2}, {0, 1, 2}, {0, 0, 1}, {0, 0, -1}};
            for (int[] other : others) {
                PuzzleChests x = house();
                x.condition(0, 0, 0, 2);
                x.condition(1, other[0], other[1], other[2]);
                due(0, x.alike(0, 1));
            }
        });
        sentence(46, "UNKNOWN, and status() is left", () -> {
            PuzzleChests x = busy();
            x.state(0);
            for (int chest : NO_CHESTS) {
                due(UNKNOWN, x.alike(chest, 0));
                due(UNKNOWN, x.alike(0, chest));
                due(UNKNOWN, x.alike(chest, chest));
            }
            due(0, x.status());
        });
    }

    private static void bytesAre(PuzzleChests x, int chest, int... bytes) {
        int all = 0;
        due(bytes.length + 1, x.export(chest));
        for (int i = 0; i < bytes.length; i++) {
            due(bytes[i], x.out(i));
            all ^= bytes[i];
        }
        due(all, x.out(bytes.length));
        due(NONE, x.out(bytes.length + 1));
    }

    private static void export() {
        sentence(47, "terms 6: WRITTEN: ROWS that are NOTHING, no CONDITIONS, no JAM, no SEAT that STICKS", () ->
            bytesAre(house(), 1, 255, 255, 255, 255, 0, 0, 0));
        sentence(47, "terms 6: WRITTEN: ROWS without PLACES, empty PLACES, PARTS", () -> {
            PuzzleChests x = house();
            x.row(0, 0, 2);
            x.row(0, 2, 0);
            x.row(0, 3, 1);
            x.part(0, 1, LATCH, 6, 5);
            x.place(0, 1, 4);
            x.part(0, 12, BLANK, 1, 0);
            bytesAre(x, 0, 2, 0, 4, 6, 4, 5, 255, 0, 1, 6, 1, 0, 0, 0, 0, 0);
        });
        sentence(47, "terms 6: WRITTEN: CONDITIONS of OPEN and of SEATS, TRUTHS, none, NOTHING", () -> {
            PuzzleChests x = house();
            x.condition(2, -1, 15, 3);
            x.truth(2, 0, 2, true);
            x.condition(2, 15, 0, -1);
            x.condition(2, 0, 4, 0);
            x.condition(2, 3, 2, 6);
            for (int i = 0; i < 6; i++) {
                x.truth(2, 3, i, i != 4);
            }
            bytesAre(x, 2, 255, 255, 255, 255, 4, 0, 15, 3, 0, 0, 1, 16, 0, 255, 1, 4, 0, 4, 2, 6, 1, 1, 1, 1, 0, 1, 0, 0);
        });
        sentence(47, "terms 6: WRITTEN: the JAM; the SEAT that STICKS and 1", () -> {
            PuzzleChests x = house();
            x.jam(0, 99, 15);
            bytesAre(x, 0, 255, 255, 255, 255, 0, 99, 16);
            x.jam(0, 1, 0);
            bytesAre(x, 0, 255, 255, 255, 255, 0, 1, 1);
        });
        sentence(47, "the longest there is", () -> {
            PuzzleChests x = house();
            for (int row = 0; row < 4; row++) {
                x.row(0, row, 4);
            }
            for (int seat = 0; seat < 16; seat++) {
                x.part(0, seat, BAR, seat < 3 ? 6 : 1, 5);
            }
            for (int i = 0; i < 40; i++) {
                x.condition(0, 15, 15, 6);
            }
            x.jam(0, 99, 15);
            due(432, x.export(0));
            due(40, x.out(68));
            due(99, x.out(429));
            due(16, x.out(430));
            int all = 0;
            for (int i = 0; i < 431; i++) {
                all ^= x.out(i);
            }
            due(all, x.out(431));
            due(NONE, x.out(432));
        });
        sentence(47, "a shorter one behind a longer one", () -> {
            PuzzleChests x = busy();
            x.export(0);
            x.clear(2);
            bytesAre(x, 2, 255, 255, 255, 255, 0, 0, 0);
        });
        sentence(47, "UNKNOWN, and the OUT is left, and status()", () -> {
            PuzzleChests x = busy();
            x.clear(2);
            x.export(2);
            for (int chest : NO_CHESTS) {
                due(UNKNOWN, x.export(chest));
                due(0, x.status());
            }
            due(255, x.out(0));
            due(NONE, x.out(8));
        });
    }

    private static void out() {
        sentence(48, "NONE: there is no such byte", () -> {
            PuzzleChests x = house();
            for (int i : new int[] {-1, 0, 7, LOW, HIGH}) {
                due(NONE, x.out(i));
            }
            x.export(0);
            due(255, x.out(0));
            due(0, x.out(7));
            for (int i : new int[] {-1, 8, 431, 432, LOW, HIGH}) {
                due(NONE, x.out(i));
            }
        });
        sentence(48, "the OUT is as the latest export() wrote it, whatever comes then", () -> {
            PuzzleChests x = house();
            x.jam(0, 7, 9);
            x.export(0);
            x.jam(0, 8, 8);
            x.row(0, 0, 1);
            x.alike(0, 1);
            x.digest(1);
            due(255, x.out(0));
            due(7, x.out(5));
            due(10, x.out(6));
            due(7 ^ 10, x.out(7));
        });
    }

    private static long digestOf(PuzzleChests x, int chest) {
        long h = 1469598103934665603L;
        int n = x.export(chest);
        for (int i = 0; i < n; i++) {
            h = (h ^ x.out(i)) * 1099511628211L;
        }
        return h;
    }

    private static void digest() {
        sentence(49, "terms 6: of a CHEST as at first", () -> due(-3859517762536293633L, house().digest(2)));
        sentence(49, "terms 6: for each of these bytes h becomes (h xor byte) times 1099511628211", () -> {
            PuzzleChests x = busy();
            for (int chest = 0; chest < 3; chest++) {
                due(digestOf(x, chest), x.digest(chest));
            }
        });
        sentence(49, "0: UNKNOWN, and status() is left", () -> {
            PuzzleChests x = busy();
            x.state(0);
            for (int chest : NO_CHESTS) {
                due(0, x.digest(chest));
            }
            due(0, x.status());
        });
    }

    /** A RING asked 35 times writes 70 numbers. */
    private static PuzzleChests longTrace() {
        PuzzleChests x = with(RING, 2, 0);
        for (int i = 0; i < 35; i++) {
            x.condition(0, -1, 0, 2);
            x.truth(0, i, 1, true);
        }
        x.isOpen(0);
        return x;
    }

    private static void trace() {
        sentence(50, "terms 3: the first 60 numbers are kept, all are counted", () -> {
            PuzzleChests x = longTrace();
            due(70, x.count(10));
            for (int i = 0; i < 70; i++) {
                due(i >= 60 ? NONE : i % 2 == 0 ? 2 : 1, x.trace(i));
            }
        });
        sentence(50, "terms 3: 60 numbers, and one more", () -> {
            PuzzleChests x = house();
            x.row(0, 0, 3);
            for (int seat = 0; seat < 3; seat++) {
                x.part(0, seat, PIN, 1, 2 * (seat / 2));
            }
            for (int i = 0; i < 30; i++) {
                x.type(32);
            }
            x.play(0);
            due(60, x.count(10));
            due(13, x.trace(59));
            due(NONE, x.trace(60));
            x.type(34);
            x.play(0);
            due(61, x.count(10));
            due(NONE, x.trace(60));
        });
        sentence(50, "NONE: there is none kept", () -> {
            PuzzleChests x = house();
            due(NONE, x.trace(0));
            x = longTrace();
            for (int i : new int[] {-1, 60, 69, 70, LOW, HIGH}) {
                due(NONE, x.trace(i));
            }
            x.tell(0, 0);
            due(1, x.trace(1));
            due(NONE, x.trace(2));
            due(NONE, x.trace(59));
        });
        sentence(50, "terms 3: emptied by each call of tell(), may(), barredBy(), move(), isOpen(), play(), attempt()", () -> {
            for (Call call : TRACED) {
                PuzzleChests x = busy();
                longPlay(x);
                call.on(x);
                due(0, x.status());
                due(1, x.count(10) < 10 ? 1 : 0);
            }
        });
        sentence(50, "terms 3: emptied also by one that is refused", () -> {
            for (Call call : TRACED_REFUSED) {
                PuzzleChests x = busy();
                x.tell(0, 1);
                due(1, call.on(x) < 0 ? 1 : 0);
                traced(x);
            }
        });
        sentence(50, "terms 3: left by all other calls, refused or not", () -> {
            for (Call[] calls : new Call[][] {NOT_TRACED, NOT_TRACED_REFUSED, TELLING}) {
                for (Call call : calls) {
                    PuzzleChests x = busy();
                    x.tell(0, 1);
                    call.on(x);
                    traced(x, 2, 1);
                }
            }
        });
    }

    private static void longPlay(PuzzleChests x) {
        for (int i = 0; i < 6; i++) {
            x.type(1);
            x.type(0);
        }
        x.jam(0, 0, -1);
        x.play(0);
        type(x, 1, 9);
    }

    private static PuzzleChests counted() {
        PuzzleChests x = house();
        for (int chest = 0; chest < 3; chest++) {
            x.row(chest, 0, 3);
            for (int i = 0; i <= chest; i++) {
                x.part(chest, i, RING, 2, 0);
            }
            for (int i = 0; i < 4 + chest; i++) {
                x.condition(chest, 9, 9, 0);
            }
            for (int i = 0; i < 7 + chest; i++) {
                x.move(chest, 1);
            }
        }
        for (int i = 0; i < 11; i++) {
            x.type(3);
        }
        x.mark(3, 14, true);
        x.take(2, 3);
        x.take(0, 4);
        x.tell(0, 2);
        x.isOpen(0);
        x.tell(0, 0);
        return x;
    }

    private static void count() {
        sentence(51, "each what", () -> {
            PuzzleChests x = counted();
            int[] counts = {1, 2, 3, 4, 5, 6, 7, 8, 9, 11, 2, 3, 1, 14};
            for (int what = 0; what < 14; what++) {
                due(counts[what], x.count(what));
            }
        });
        sentence(51, "11 FINDINGS ever, 12 the latest FINDING: of each kind", () -> {
            PuzzleChests x = busy();
            int before = x.count(11);
            x.take(0, 5);
            due(1, x.count(12));
            x.place(0, 0, 3);
            due(2, x.count(12));
            x.tell(0, 3);
            due(3, x.count(12));
            x.row(0, 0, -2);
            due(4, x.count(12));
            x.move(0, 9);
            due(5, x.count(12));
            due(before + 5, x.count(11));
            x.tell(0, 0);
            due(5, x.count(12));
        });
        sentence(51, "12: 0 before any", () -> {
            PuzzleChests x = twoBars();
            x.row(3, 0, 0);
            x.move(0, 0);
            due(0, x.count(11));
            due(0, x.count(12));
        });
        sentence(51, "UNKNOWN, and status() is left", () -> {
            PuzzleChests x = busy();
            x.state(0);
            for (int what : new int[] {-1, 14, LOW, HIGH}) {
                due(UNKNOWN, x.count(what));
            }
            due(0, x.status());
        });
    }

    private static void status() {
        sentence(52, "0 before any call, and told as often as asked", () -> {
            PuzzleChests x = house();
            due(0, x.status());
            x.back(0);
            due(STATE, x.status());
            due(STATE, x.status());
        });
        sentence(52, "what the latest call was refused with, or -10 less the FINDING that it met", () -> {
            for (Call[] calls : new Call[][] {TRACED_REFUSED, NOT_TRACED_REFUSED}) {
                for (Call call : calls) {
                    PuzzleChests x = busy();
                    x.state(0);
                    int answer = call.on(x);
                    due(1, answer < -1 ? 1 : 0);
                    due(answer, x.status());
                }
            }
        });
        sentence(52, "0: nothing, behind each call that was not refused", () -> {
            for (Call[] calls : new Call[][] {TRACED, NOT_TRACED}) {
                for (Call call : calls) {
                    PuzzleChests x = busy();
                    x.state(3);
                    due(UNKNOWN, x.status());
                    call.on(x);
                    due(0, x.status());
                }
            }
        });
        sentence(52, "those that tell, and status(), leave it: alike() to count()", () -> {
            for (Call call : TELLING) {
                PuzzleChests x = busy();
                x.row(0, 0, 5);
                call.on(x);
                due(OUTSIDE, x.status());
                x.state(0);
                call.on(x);
                due(0, x.status());
            }
        });
        sentence(52, "a FINDING that is PASSED BY is not told", () -> {
            PuzzleChests x = busy();
            x.state(3);
            due(0, x.may(0, 10));
            due(0, x.status());
            x.state(3);
            due(0, x.move(0, 6));
            due(0, x.status());
        });
        sentence(52, "NONE is no refusal", () -> {
            PuzzleChests x = busy();
            Call[] calls = {y -> y.ordered(-1), y -> y.layer(-1), y -> y.way(-1), y -> y.along(-1),
                y -> y.marked(-1), y -> y.make(2, 5, 40), y -> y.searched(0), y -> y.conditionTold(0, 1, 2)};
            for (Call call : calls) {
                x.state(3);
                due(NONE, call.on(x));
                due(0, x.status());
            }
        });
    }

    private static void constants() {
        sentence(52, "the constants of the face", () -> {
            due(NONE, PuzzleChests.NONE);
            due(UNKNOWN, PuzzleChests.UNKNOWN);
            due(OUTSIDE, PuzzleChests.OUTSIDE);
            due(STATE, PuzzleChests.STATE);
            due(FULL, PuzzleChests.FULL);
            due(SPENT, PuzzleChests.SPENT);
        });
    }

    public static void main(String[] args) {
        alike();
        export();
        out();
        digest();
        trace();
        count();
        status();
        constants();
        end();
    }
}
