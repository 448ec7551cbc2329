import java.util.function.IntFunction;
import java.util.function.Supplier;

/**
 * What the tests of single sentences share: how a case is named and judged, and houses to begin with.
 * A case bears the number of its promise and the words of the document that it stands for.
 */
abstract class Sentences {
    static final int NONE = -1, UNKNOWN = -2, OUTSIDE = -3, STATE = -4, FULL = -5, SPENT = -9;
    static final int NOTHING = -11, BEYOND = -12, UNLIKE = -13, SIZE = -14, JAM = -15;
    static final int BAR = 0, RING = 1, PIN = 2, LATCH = 3, DRAWER = 4, BLANK = 5;
    static final int LOW = Integer.MIN_VALUE, HIGH = Integer.MAX_VALUE;
    static final int[] NO_CHESTS = {-1, 3, LOW, HIGH};

    interface Case {
        void run();
    }

    interface Call {
        int on(PuzzleChests x);
    }

    private static final int PROMISES = 52;
    private static final int[] CASES = new int[PROMISES + 1];
    private static String now;
    private static int wrong;

    // ---- how a case is judged

    static void sentence(int promise, String words, Case body) {
        now = "promise " + promise + ", " + words;
        CASES[promise]++;
        try {
            body.run();
        } catch (RuntimeException | StackOverflowError e) {
            say("threw " + e);
        }
    }

    static void due(long want, long got) {
        if (got != want) {
            say("answered " + got + ", due is " + want);
        }
    }

    static void traced(PuzzleChests x, int... numbers) {
        boolean same = x.count(10) == numbers.length && x.trace(numbers.length) == NONE;
        StringBuilder got = new StringBuilder();
        for (int i = 0; i < x.count(10); i++) {
            same &= i < numbers.length && x.trace(i) == numbers[i];
            got.append(' ').append(x.trace(i));
        }
        if (!same) {
            say("the trace is" + got);
        }
    }

    private static void say(String what) {
        wrong++;
        int line = StackWalker.getInstance().walk(s -> s
            .filter(f -> !f.getClassName().startsWith("Sentences")).findFirst()
            .map(StackWalker.StackFrame::getLineNumber).orElse(0));
        System.out.println(now + " (line " + line + "): " + what);
    }

    static void end() {
        for (int promise = 1; promise <= PROMISES; promise++) {
            if (wrong == 0 && CASES[promise] > 0) {
                System.out.println("promise " + promise + ": " + CASES[promise] + " sentences hold");
            }
        }
        if (wrong != 0) {
            System.out.println(wrong + " answers are not as due");
            System.exit(1);
        }
    }

    // ---- refusals and findings: each call is made in a house of its own, and must change nothing else

    /** Refused: it answers so, and status() tells the same. */
    static void refused(int promise, String words, int answer, Call... calls) {
        refusedIn(Sentences::busy, promise, words, answer, calls);
    }

    static void refusedIn(Supplier<PuzzleChests> houses, int promise, String words, int answer, Call... calls) {
        sentence(promise, words, () -> changeNothing(houses, answer, answer, 0, calls));
    }

    /** UNKNOWN: a CHEST that is not there, whatever else is given. */
    static void noSuchChest(int promise, IntFunction<Call> calls) {
        Call[] all = new Call[NO_CHESTS.length];
        for (int i = 0; i < all.length; i++) {
            all[i] = calls.apply(NO_CHESTS[i]);
        }
        refused(promise, "UNKNOWN: no such CHEST", UNKNOWN, all);
    }

    /** A FINDING: it answers -10 less it, status() tells the same, and it is counted. */
    static void finds(int promise, String words, int answer, Call... calls) {
        findsIn(Sentences::busy, promise, words, answer, calls);
    }

    static void findsIn(Supplier<PuzzleChests> houses, int promise, String words, int answer, Call... calls) {
        sentence(promise, words, () -> changeNothing(houses, answer, answer, -10 - answer, calls));
    }

    /** A FINDING that is PASSED BY: it answers something else, status() tells nothing, and it is counted. */
    static void passesBy(int promise, String words, int finding, int answer, Call... calls) {
        sentence(promise, words, () -> changeNothing(Sentences::busy, answer, 0, -10 - finding, calls));
    }

    private static void changeNothing(Supplier<PuzzleChests> houses, int answer, int status, int finding, Call[] calls) {
        for (Call call : calls) {
            PuzzleChests x = houses.get();
            int findings = x.count(11), latest = x.count(12);
            String before = look(x);
            due(answer, call.on(x));
            due(status, x.status());
            due(finding == 0 ? findings : findings + 1, x.count(11));
            due(finding == 0 ? latest : finding, x.count(12));
            unchanged(before, x);
        }
    }

    private static void unchanged(String before, PuzzleChests x) {
        String behind = look(x);
        if (!behind.equals(before)) {
            say("changed\n    " + before + "\n into\n    " + behind);
        }
    }

    /** All that can be looked at, but for status(), THE TRACE and the FINDINGS. */
    static String look(PuzzleChests x) {
        StringBuilder all = new StringBuilder();
        for (int chest = 0; chest < 3; chest++) {
            all.append(x.digest(chest)).append(' ');
        }
        for (int what = 0; what < 14; what++) {
            all.append(what < 10 || what == 13 ? x.count(what) : 0).append(' ');
        }
        for (int what = 0; what < 7; what++) {
            all.append(x.searched(what)).append(' ');
        }
        for (int what = 0; what < 3; what++) {
            all.append(x.attempted(what)).append(' ').append(x.shown(what)).append(' ');
        }
        for (int i = 0; i < 9; i++) {
            all.append(x.out(i)).append(' ').append(x.marked(i)).append(' ');
        }
        return all.append(x.shortest()).append(' ').append(x.ordered(1)).toString();
    }

    // ---- houses

    static PuzzleChests house() {
        return new PuzzleChests();
    }

    /** CHEST 0 has one PART, at SEAT 0, alone in its ROW. */
    static PuzzleChests with(int kind, int span, int side) {
        PuzzleChests x = house();
        x.row(0, 0, 1);
        x.part(0, 0, kind, span, side);
        return x;
    }

    /** A BAR of 3 at SEAT 0; a BAR of 3 at SEAT 1 that goes while the first is AT 2; OPEN when that is AT 2. */
    static PuzzleChests twoBars() {
        PuzzleChests x = house();
        x.row(0, 0, 2);
        x.part(0, 0, BAR, 3, 0);
        x.part(0, 1, BAR, 3, 0);
        x.condition(0, 1, 0, 3);
        x.truth(0, 0, 2, true);
        x.condition(0, -1, 1, 3);
        x.truth(0, 1, 2, true);
        return x;
    }

    /** One row of 4 PLACES with a BAR of 4, a RING of 3, a DRAWER of 3 and a BLANK. */
    static PuzzleChests handled() {
        PuzzleChests x = house();
        x.row(0, 0, 4);
        x.part(0, 0, BAR, 4, 0);
        x.part(0, 1, RING, 3, 0);
        x.part(0, 2, DRAWER, 3, 0);
        x.part(0, 3, BLANK, 1, 0);
        return x;
    }

    /**
     * Twelve STATES, in three of which (3 to 5) nothing opens any more: once the LATCH of SEAT 1 has fallen
     * it stays, and the BAR of SEAT 2, which opens, goes only while it has not and SEAT 0 is AT 2.
     */
    static PuzzleChests withTraps() {
        PuzzleChests x = house();
        x.row(0, 0, 3);
        x.part(0, 0, BAR, 3, 0);
        x.part(0, 1, LATCH, 2, 4);
        x.part(0, 2, BAR, 2, 0);
        x.condition(0, 2, 1, 2);
        x.truth(0, 0, 1, true);
        x.condition(0, 2, 0, 3);
        x.truth(0, 1, 2, true);
        x.condition(0, -1, 2, 2);
        x.truth(0, 2, 1, true);
        return x;
    }

    /** CHEST 0 has 1024 STATES, all of five RINGS of 4 at SEATS 0 to 4; SEAT 5 is empty. */
    static PuzzleChests largest() {
        PuzzleChests x = house();
        x.row(0, 0, 4);
        x.row(0, 1, 2);
        for (int seat = 0; seat < 5; seat++) {
            x.part(0, seat, RING, 4, 0);
        }
        return x;
    }

    /**
     * Something of everything, so that a call that should change nothing is seen if it does. CHEST 0: BAR, RING,
     * LATCH, BLANK at SEATS 0 to 3, a DRAWER that STICKS at 4, none at 5, 6 and 8 BEYOND, ROW 3 NOTHING.
     * CONDITION 0 is of OPEN; 1 to 6 are of SEAT 1, and each meets a FINDING.
     */
    static PuzzleChests busy() {
        PuzzleChests x = house();
        x.row(0, 0, 4);
        x.row(0, 1, 2);
        x.row(0, 2, 0);
        x.part(0, 0, BAR, 3, 0);
        x.part(0, 1, RING, 4, 0);
        x.part(0, 2, LATCH, 2, 4);
        x.part(0, 3, BLANK, 1, 0);
        x.part(0, 4, DRAWER, 3, 0);
        x.condition(0, -1, 0, 3);
        x.truth(0, 0, 2, true);
        x.condition(0, 1, 0, -1);
        x.condition(0, 1, 3, 2);
        x.condition(0, 1, 5, 2);
        x.condition(0, 1, 6, 2);
        x.condition(0, 1, 12, 2);
        x.condition(0, 1, 0, 0);
        x.jam(0, 9, 4);
        x.copy(0, 1);
        x.move(1, 1);
        x.row(2, 0, 1);
        x.part(2, 0, PIN, 6, 0);
        x.move(2, 32);
        x.move(0, 1);
        x.type(1);
        x.type(9);
        x.attempt(0);
        x.search(0, 3);
        x.mark(2, 3, true);
        x.shows(2);
        x.export(0);
        x.isOpen(0);
        return x;
    }

    static void type(PuzzleChests x, int... moves) {
        x.untype();
        for (int m : moves) {
            x.type(m);
        }
    }

    static void truths(PuzzleChests x, int condition, int... truths) {
        for (int i = 0; i < truths.length; i++) {
            x.truth(0, condition, i, truths[i] == 1);
        }
    }
}
