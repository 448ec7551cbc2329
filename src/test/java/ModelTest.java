import java.lang.reflect.Method;
import java.util.ArrayList;
import java.util.Arrays;
import java.util.List;
import java.util.Random;

/** Long runs of drawn calls on the program and on the plain model beside it: each answer must be the same. */
public final class ModelTest {
    private static final int RUNS = 1500, CALLS = 512;

    private final PuzzleChests program = new PuzzleChests();
    private final PlainChests model = new PlainChests();
    private final List<String> said = new ArrayList<>();
    private final Random random;
    private final int style;
    private int calls;

    private ModelTest(long seed) {
        random = new Random(seed);
        style = random.nextInt(6);
    }

    private static final class Wrong extends Exception {
        private static final long serialVersionUID = 1;

        Wrong(String text) {
            super(text);
        }
    }

    private static Method method(Class<?> of, String name) {
        for (Method m : of.getDeclaredMethods()) {
            if (m.getName().equals(name) && !m.isSynthetic() && !java.lang.reflect.Modifier.isPrivate(m.getModifiers())) {
                m.setAccessible(true);
                return m;
            }
        }
        throw new IllegalArgumentException(name);
    }

    private long call(String name, Object... args) throws Exception {
        Object got = method(PuzzleChests.class, name).invoke(program, args);
        Object due = method(PlainChests.class, name).invoke(model, args);
        calls++;
        said.add(name + Arrays.toString(args) + " = " + got);
        if (!got.equals(due)) {
            throw new Wrong(String.join("\n  ", said) + "\n  due is " + due);
        }
        return ((Number) got).longValue();
    }

    private int below(int n) {
        return random.nextInt(n);
    }

    private boolean rarely() {
        return below(40) == 0;
    }

    /** Mostly from low up to high, at times just outside, at times far off. */
    private int number(int low, int high) {
        if (rarely()) {
            int[] odd = {low - 1, high + 1, low - 2, high + 2, Integer.MIN_VALUE, Integer.MAX_VALUE};
            return odd[below(odd.length)];
        }
        return low + below(high - low + 1);
    }

    private int chest() {
        return rarely() ? number(0, 2) : below(3) == 0 ? below(3) : 0;
    }

    private int seat() {
        return style < 3 && below(8) != 0 ? number(0, 5) : number(0, 15);
    }

    private int aMove() {
        if (below(4) == 0) {
            return 32 + below(6);
        }
        return style < 3 && below(8) != 0 ? below(12) : number(0, 37);
    }

    private void build() throws Exception {
        int chest = 0;
        int rows = style < 3 ? 2 : 4;
        for (int r = 0; r < rows; r++) {
            call("row", chest, r, below(8) == 0 ? number(-1, 4) : 4 - below(2));
        }
        int parts = 2 + below(style < 3 ? 5 : 14);
        for (int i = 0; i < parts; i++) {
            int kind = below(6);
            int span = kind == 5 ? 1 : style == 4 ? 2 : 1 + below(style == 5 ? 3 : 6);
            call("part", chest, below(4 * rows), kind, span, below(below(3) == 0 ? 6 : 2));
        }
        int conditions = below(style == 3 ? 40 : 8);
        for (int i = 0; i < conditions; i++) {
            int n = below(12) == 0 ? number(-1, 6) : 3 + below(4);
            long k = call("condition", chest, below(5) == 0 ? -1 : below(4 * rows), below(4 * rows), n);
            for (int j = 0; j < n && j < 6; j++) {
                if (below(4) != 0) {
                    call("truth", chest, (int) k, j, true);
                }
            }
        }
    }

    private void askOne() throws Exception {
        switch (below(56)) {
            case 0 -> call("row", chest(), number(0, 3), number(-1, 4));
            case 1, 2 -> call("part", chest(), seat(), number(0, 5), number(1, below(3) == 0 ? 1 : 6), number(0, 5));
            case 3 -> call("take", chest(), seat());
            case 4 -> call("condition", chest(), number(-1, 15), seat(), number(-1, 6));
            case 5, 6 -> call("truth", chest(), number(0, 8), number(0, 5), below(3) != 0);
            case 7 -> call("copyTruths", chest(), number(0, 5), number(0, 3), number(0, 5), number(0, 3), number(0, 4));
            case 8, 9 -> call("jam", chest(), below(2) * number(0, 99), below(3) == 0 ? seat() : -1);
            case 10 -> call(below(6) == 0 ? "clear" : "product", chest());
            case 11 -> call("copy", chest(), chest());
            case 12 -> call("make", chest(), random.nextInt(), number(0, below(10) == 0 ? 40 : 5));
            case 13 -> call("told", chest(), seat(), number(0, 3));
            case 14, 15 -> call("tell", chest(), seat());
            case 16 -> call("conditionTold", chest(), number(0, 8), number(0, 8));
            case 17 -> call("holds", chest(), number(0, 8));
            case 18 -> call("may", chest(), aMove());
            case 19, 20 -> call("barredBy", chest(), aMove());
            case 21 -> call("isOpen", chest());
            case 22 -> call("state", chest());
            case 23 -> call("ofNumber", chest(), number(0, below(2) == 0 ? 20 : 1023));
            case 24 -> call("place", chest(), seat(), number(0, 3));
            case 25, 26, 27, 28 -> call("move", chest(), aMove());
            case 29, 30 -> call("type", aMove());
            case 31 -> call(below(4) == 0 ? "untype" : "traps");
            case 32 -> call("play", chest());
            case 33 -> call("attempt", chest());
            case 34 -> call("attempted", number(0, 2));
            case 35 -> call("back", chest());
            case 36, 37, 38 -> call("search", chest(), below(4) == 0 ? number(1, 1000) : 1 + below(30));
            case 39, 40 -> call("goOn", below(2) == 0 ? number(1, 1000) : 1000);
            case 41 -> call("searched", number(0, 6));
            case 42 -> call("ordered", number(0, 100));
            case 43 -> call("layer", number(0, 100));
            case 44 -> call("shortest");
            case 45 -> call("way", number(0, 5));
            case 46 -> call("along", number(0, 5));
            case 47 -> call("trap", number(0, 60));
            case 48, 49 -> call("hint", chest());
            case 50 -> call("mark", number(0, 1024), number(0, below(2) == 0 ? 30 : 1024), below(2) == 0);
            case 51 -> call("markAll");
            case 52 -> call("marked", number(0, 1023));
            case 53 -> call("shows", chest());
            case 54 -> call("shown", number(0, 2));
            default -> tellOne();
        }
    }

    private void tellOne() throws Exception {
        switch (below(6)) {
            case 0 -> call("alike", chest(), chest());
            case 1 -> call("export", chest());
            case 2 -> call("out", number(0, 60));
            case 3 -> call("trace", number(0, 70));
            case 4 -> call("count", number(0, 13));
            default -> call("digest", chest());
        }
    }

    /** All that can be looked at without a change. */
    private void compareAll() throws Exception {
        call("status");
        for (int what = 0; what < 14; what++) {
            call("count", what);
        }
        for (int chest = 0; chest < 3; chest++) {
            call("digest", chest);
        }
        for (int i = 0; i < 60; i++) {
            call("trace", i);
        }
    }

    private void compareSearch() throws Exception {
        for (int what = 0; what < 7; what++) {
            call("searched", what);
        }
        for (int i = 0; i < 30; i++) {
            call("ordered", i);
            call("layer", i);
            call("way", i);
            call("along", i);
            call("trap", i);
        }
        call("shortest");
        call("traps");
    }

    private void run() throws Exception {
        build();
        while (calls < CALLS - 80) {
            askOne();
            int look = below(12);
            if (look < 8) {
                call("status");
            } else if (look == 8 && below(3) == 0) {
                compareAll();
            }
        }
        compareAll();
        compareSearch();
    }

    public static void main(String[] args) throws Exception {
        int runs = args.length > 0 ? Integer.parseInt(args[0]) : RUNS;
        long first = args.length > 1 ? Long.parseLong(args[1]) : 1;
        for (int i = 0; i < runs; i++) {
            try {
                new ModelTest(first + i).run();
            } catch (Wrong w) {
                System.out.println("run of seed " + (first + i) + ":\n  " + w.getMessage());
                System.exit(1);
            }
        }
        System.out.println(runs + " drawn runs are as the model has them");
    }
}
