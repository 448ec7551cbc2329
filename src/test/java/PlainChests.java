import java.util.ArrayDeque;
import java.util.ArrayList;
import java.util.HashMap;
import java.util.List;
import java.util.Map;
import java.util.TreeSet;

/**
 * The document once more, as plainly and as unlike the program as can be: parts are objects of classes,
 * findings are thrown, nothing is kept that can be worked out again. ModelTest compares both.
 */
final class PlainChests {
    @SuppressWarnings("serial")
    static final class Finding extends RuntimeException {
        final int number;

        Finding(int number) {
            super(null, null, false, false);
            this.number = number;
        }
    }

    private static final int NOTHING = 1, BEYOND = 2, UNLIKE = 3, SIZE = 4, JAM = 5;

    // ---- parts

    private abstract class Part {
        int kind, span, at, side;

        int tells() {
            write(1);
            return at;
        }
    }

    private class Bar extends Part {
        boolean goes(int d) {
            write(11);
            return at + d >= 0 && at + d < span;
        }

        void go(int d) {
            at += d;
        }
    }

    private final class Ring extends Bar {
        @Override int tells() {
            write(2);
            return (super.tells() + 1) % span;
        }

        @Override boolean goes(int d) {
            write(12);
            return true;
        }

        @Override void go(int d) {
            at = Math.floorMod(at + d, span);
        }
    }

    private class Pin extends Bar {
        void fall(Chest c, int seat, int d) {
            write(13);
            while (at + d >= 0 && at + d < span && c.firstFailing(seat) < 0) {
                at += d;
            }
        }
    }

    private final class Latch extends Pin {
        @Override int tells() {
            write(3);
            return span - 1 - super.tells();
        }

        @Override void fall(Chest c, int seat, int d) {
            write(15);
            if (at != span - 1) {
                super.fall(c, seat, d);
            }
        }
    }

    private final class Drawer extends Part {
        @Override int tells() {
            write(4);
            return super.tells() == 0 ? 0 : 1;
        }

        boolean goes(int d) {
            write(14);
            return at + d >= 0 && at + d < span;
        }
    }

    private final class Blank extends Part {
    }

    private Part newPart(int kind, int span, int at, int side) {
        Part p;
        if (kind == 0) {
            p = new Bar();
        } else if (kind == 1) {
            p = new Ring();
        } else if (kind == 2) {
            p = new Pin();
        } else if (kind == 3) {
            p = new Latch();
        } else if (kind == 4) {
            p = new Drawer();
        } else {
            p = new Blank();
        }
        p.kind = kind;
        p.span = span;
        p.at = at;
        p.side = side;
        return p;
    }

    private static final class Condition {
        int seat, looks;
        boolean[] truths;
    }

    private final class Chest {
        Part[][] rows = new Part[4][];
        List<Condition> conditions = new ArrayList<>();
        int jam = 0, sticks = -1;
        ArrayDeque<Integer> kept = new ArrayDeque<>();

        List<Part> parts() {
            List<Part> all = new ArrayList<>();
            for (Part[] r : rows) {
                if (r != null) {
                    for (Part p : r) {
                        if (p != null) {
                            all.add(p);
                        }
                    }
                }
            }
            return all;
        }

        int product() {
            int n = 1;
            for (Part p : parts()) {
                n *= p.span;
            }
            return n;
        }

        int number() {
            int n = 0, w = 1;
            for (Part p : parts()) {
                n += p.at * w;
                w *= p.span;
            }
            return n;
        }

        void stand(int number) {
            for (Part p : parts()) {
                p.at = number % p.span;
                number /= p.span;
            }
        }

        void comeToPlace(int seat) {
            if (rows[seat / 4] == null) {
                throw new Finding(NOTHING);
            }
            if (seat % 4 >= rows[seat / 4].length) {
                throw new Finding(BEYOND);
            }
        }

        Part comeTo(int seat) {
            comeToPlace(seat);
            if (rows[seat / 4][seat % 4] == null) {
                throw new Finding(NOTHING);
            }
            return rows[seat / 4][seat % 4];
        }

        int tellsAt(int seat) {
            Part p = comeTo(seat);
            if (p instanceof Blank) {
                throw new Finding(UNLIKE);
            }
            return p.tells();
        }

        boolean conditionHolds(int i) {
            Condition c = conditions.get(i);
            int told = tellsAt(c.looks);
            if (c.truths == null) {
                throw new Finding(NOTHING);
            }
            if (told >= c.truths.length) {
                throw new Finding(BEYOND);
            }
            return c.truths[told];
        }

        int firstFailing(int seat) {
            for (int i = 0; i < conditions.size(); i++) {
                if (conditions.get(i).seat == seat) {
                    boolean holds;
                    try {
                        holds = conditionHolds(i);
                    } catch (Finding f) {
                        note(f);
                        holds = false;
                    }
                    if (!holds) {
                        return i;
                    }
                }
            }
            return -1;
        }

        boolean open() {
            boolean any = false;
            for (Condition c : conditions) {
                any |= c.seat == -1;
            }
            return any && firstFailing(-1) < 0;
        }

        /** -1: nothing bars it; -3: does not go; a condition; a Finding is thrown. */
        int bars(int move) {
            if (move >= 32) {
                return -1;
            }
            Part p = comeTo(move / 2);
            int d = move % 2 == 0 ? -1 : 1;
            boolean goes;
            if (p.kind == 4) {
                goes = ((Drawer) p).goes(d);
            } else if (p.kind == 0 || p.kind == 1) {
                goes = ((Bar) p).goes(d);
            } else {
                throw new Finding(UNLIKE);
            }
            return goes ? firstFailing(move / 2) : -3;
        }

        boolean mayBe(int move) {
            try {
                return bars(move) == -1;
            } catch (Finding f) {
                note(f);
                return false;
            }
        }

        void carryOut(int move) {
            if (move < 32) {
                Part p = comeTo(move / 2);
                int d = move % 2 == 0 ? -1 : 1;
                if (p instanceof Bar b) {
                    b.go(d);
                } else {
                    p.at += d;
                }
                return;
            }
            int t = move - 32;
            for (int seat = 0; seat < 16; seat++) {
                if (rows[seat / 4] != null && seat % 4 < rows[seat / 4].length
                    && rows[seat / 4][seat % 4] instanceof Pin p) {
                    if (p.side == t) {
                        p.fall(this, seat, 1);
                    } else if (p.side == (t ^ 1)) {
                        p.fall(this, seat, -1);
                    }
                }
            }
        }

        /** Whether it was done; a Finding is thrown if it is stuck. */
        boolean perform(int move) {
            if (!mayBe(move)) {
                return false;
            }
            if (move < 32 && move / 2 == sticks) {
                throw new Finding(jam == 0 ? NOTHING : JAM);
            }
            carryOut(move);
            return true;
        }

        void keep(int number) {
            kept.addLast(number);
            if (kept.size() > 30) {
                kept.removeFirst();
            }
        }

        Chest copied() {
            Chest c = new Chest();
            for (int r = 0; r < 4; r++) {
                if (rows[r] != null) {
                    c.rows[r] = new Part[rows[r].length];
                    for (int p = 0; p < rows[r].length; p++) {
                        Part o = rows[r][p];
                        c.rows[r][p] = o == null ? null : newPart(o.kind, o.span, o.at, o.side);
                    }
                }
            }
            for (Condition o : conditions) {
                Condition n = new Condition();
                n.seat = o.seat;
                n.looks = o.looks;
                n.truths = o.truths == null ? null : o.truths.clone();
                c.conditions.add(n);
            }
            c.jam = jam;
            c.sticks = sticks;
            return c;
        }

        List<Integer> written() {
            List<Integer> b = new ArrayList<>();
            for (Part[] r : rows) {
                b.add(r == null ? 255 : r.length);
                if (r != null) {
                    for (Part p : r) {
                        b.addAll(p == null ? List.of(0) : List.of(p.kind + 1, p.span, p.at, p.side));
                    }
                }
            }
            b.add(conditions.size());
            for (Condition c : conditions) {
                b.add(c.seat + 1);
                b.add(c.looks);
                b.add(c.truths == null ? 255 : c.truths.length);
                if (c.truths != null) {
                    for (boolean t : c.truths) {
                        b.add(t ? 1 : 0);
                    }
                }
            }
            b.add(jam);
            b.add(sticks + 1);
            int x = 0;
            for (int v : b) {
                x ^= v;
            }
            b.add(x);
            return b;
        }
    }

    private final class Search {
        int chest, start, taken;
        boolean over;
        List<Integer> order = new ArrayList<>();
        Map<Integer, Integer> layers = new HashMap<>();
        Map<Integer, int[]> from = new HashMap<>();
        List<Integer> open = new ArrayList<>();
        Chest own;

        Search(Chest of, int chest) {
            // its own copy: moves of the chest's parts must not matter to it
            own = of.copied();
            this.chest = chest;
            start = own.number();
            meet(start, 0, null);
        }

        void meet(int number, int layer, int[] cameFrom) {
            if (!layers.containsKey(number)) {
                layers.put(number, layer);
                order.add(number);
                from.put(number, cameFrom);
                own.stand(number);
                if (own.open()) {
                    open.add(number);
                }
            }
        }

        void takeUpTo(int n) {
            for (int i = 0; i < n && taken < order.size(); i++) {
                int number = order.get(taken++);
                for (int m = 0; m < 38; m++) {
                    int behind = behind(own, number, m);
                    if (behind >= 0) {
                        meet(behind, layers.get(number) + 1, new int[] {number, m});
                    }
                }
            }
        }

        boolean whole() {
            return taken == order.size();
        }

        /** The moves of the way; null: there is none. */
        List<Integer> wayMoves() {
            if (open.isEmpty()) {
                return null;
            }
            List<Integer> moves = new ArrayList<>();
            for (int[] f = from.get(open.get(0)); f != null; f = from.get(f[0])) {
                moves.add(0, f[1]);
            }
            return moves;
        }

        /** Fewest moves to an open state, by looking on from it; -1: none. */
        Map<Integer, Integer> farness() {
            Map<Integer, Integer> far = new HashMap<>();
            for (int n : open) {
                far.put(n, 0);
            }
            for (int d = 0; ; d++) {
                List<Integer> next = new ArrayList<>();
                for (int n : order) {
                    for (int m = 0; m < 38 && !far.containsKey(n); m++) {
                        Integer f = far.get(behind(own, n, m));
                        if (f != null && f == d) {
                            next.add(n);
                            break;
                        }
                    }
                }
                if (next.isEmpty()) {
                    return far;
                }
                for (int n : next) {
                    far.put(n, d + 1);
                }
            }
        }
    }

    /** The number behind a move from a state; -1: it may not be. The chest stands there afterwards. */
    private int behind(Chest c, int number, int move) {
        boolean was = silent;
        silent = true;
        c.stand(number);
        int result = -1;
        if (c.mayBe(move)) {
            c.carryOut(move);
            result = c.number();
        }
        c.stand(number);
        silent = was;
        return result;
    }

    private final Chest[] chests = {new Chest(), new Chest(), new Chest()};
    private final List<Integer> traced = new ArrayList<>();
    private final List<Integer> typedRow = new ArrayList<>();
    private final TreeSet<Integer> marks = new TreeSet<>();
    private List<Integer> outBytes = new ArrayList<>();
    private int[] tried = {0, -1, 0};
    private int[] looked = {-1, -1, -1};
    private Search search;
    private int findings, latest, status;
    private boolean silent;

    private void write(int n) {
        if (!silent) {
            traced.add(n);
        }
    }

    private void note(Finding f) {
        if (!silent) {
            findings++;
            latest = f.number;
        }
    }

    private interface Body {
        int run();
    }

    /** What a refusal is: thrown with its answer. */
    @SuppressWarnings("serial")
    private static final class Refusal extends RuntimeException {
        final int answer;

        Refusal(int answer) {
            super(null, null, false, false);
            this.answer = answer;
        }
    }

    private int call(Body b) {
        status = 0;
        try {
            return b.run();
        } catch (Refusal r) {
            status = r.answer;
            return status;
        } catch (Finding f) {
            note(f);
            status = -10 - f.number;
            return status;
        }
    }

    private static void need(boolean fine, int refusal) {
        if (!fine) {
            throw new Refusal(refusal);
        }
    }

    private static void needFinding(boolean fine, int finding) {
        if (!fine) {
            throw new Finding(finding);
        }
    }

    private Chest of(int chest) {
        need(chest >= 0 && chest <= 2, -2);
        return chests[chest];
    }

    private Condition of(int chest, int condition) {
        Chest c = of(chest);
        need(condition >= 0 && condition < c.conditions.size(), -2);
        return c.conditions.get(condition);
    }

    private static void seatIs(int seat) {
        need(seat >= 0 && seat <= 15, -3);
    }

    private static void moveIs(int move, int refusal) {
        need(move >= 0 && move <= 37, refusal);
    }

    private int built(int chest, int answer) {
        chests[chest].kept.clear();
        if (search != null && search.chest == chest) {
            search.over = true;
        }
        return answer;
    }

    // ---- building

    int row(int chest, int row, int n) {
        return call(() -> {
            Chest c = of(chest);
            need(row >= 0 && row <= 3, -2);
            need(n <= 4, -3);
            needFinding(n >= -1, SIZE);
            c.rows[row] = n == -1 ? null : new Part[n];
            return built(chest, 1);
        });
    }

    int part(int chest, int seat, int kind, int span, int side) {
        return call(() -> {
            Chest c = of(chest);
            seatIs(seat);
            need(kind >= 0 && kind <= 5 && span >= 1 && span <= 6 && side >= 0 && side <= 5, -3);
            need(kind != 5 || span == 1, -3);
            c.comeToPlace(seat);
            Part before = c.rows[seat / 4][seat % 4];
            c.rows[seat / 4][seat % 4] = newPart(kind, span, 0, side);
            if (c.product() > 1024) {
                c.rows[seat / 4][seat % 4] = before;
                need(false, -5);
            }
            return built(chest, c.parts().size());
        });
    }

    int take(int chest, int seat) {
        return call(() -> {
            Chest c = of(chest);
            seatIs(seat);
            c.comeTo(seat);
            c.rows[seat / 4][seat % 4] = null;
            return built(chest, c.parts().size());
        });
    }

    int condition(int chest, int seat, int looks, int n) {
        return call(() -> {
            Chest c = of(chest);
            need(seat >= -1 && seat <= 15 && looks >= 0 && looks <= 15 && n <= 6, -3);
            needFinding(n >= -1, SIZE);
            need(c.conditions.size() < 40, -5);
            Condition k = new Condition();
            k.seat = seat;
            k.looks = looks;
            k.truths = n == -1 ? null : new boolean[n];
            c.conditions.add(k);
            return built(chest, c.conditions.size() - 1);
        });
    }

    int truth(int chest, int condition, int i, boolean v) {
        return call(() -> {
            Condition k = of(chest, condition);
            needFinding(k.truths != null, NOTHING);
            needFinding(i >= 0 && i < k.truths.length, BEYOND);
            int before = k.truths[i] ? 1 : 0;
            k.truths[i] = v;
            return built(chest, before);
        });
    }

    int copyTruths(int chest, int to, int i, int from, int j, int n) {
        return call(() -> {
            Condition a = of(chest, to), b = of(chest, from);
            needFinding(a.truths != null && b.truths != null, NOTHING);
            needFinding(i >= 0 && j >= 0 && n >= 0, BEYOND);
            needFinding((long) i + n <= a.truths.length && (long) j + n <= b.truths.length, BEYOND);
            boolean[] before = b.truths.clone();
            for (int k = 0; k < n; k++) {
                a.truths[i + k] = before[j + k];
            }
            return built(chest, n);
        });
    }

    int jam(int chest, int jam, int seat) {
        return call(() -> {
            Chest c = of(chest);
            need(jam >= 0 && jam <= 99 && seat >= -1 && seat <= 15, -3);
            int before = c.jam;
            c.jam = jam;
            c.sticks = seat;
            return before;
        });
    }

    int clear(int chest) {
        return call(() -> {
            int before = of(chest).parts().size();
            chests[chest] = new Chest();
            return built(chest, before);
        });
    }

    int copy(int a, int b) {
        return call(() -> {
            Chest from = of(a);
            of(b);
            chests[b] = from.copied();
            return built(b, chests[b].parts().size());
        });
    }

    private int drawn;

    private int draw(int n) {
        drawn = drawn * 1103515245 + 12345;
        return (drawn >>> 16) % n;
    }

    private Chest byNumber(int x) {
        int[] seats = {0, 1, 4, 5};
        drawn = x;
        Chest c = new Chest();
        c.rows[0] = new Part[2];
        c.rows[1] = new Part[2];
        for (int s : seats) {
            int kind = draw(5);
            int span = draw(3) + 2;
            int side = draw(6);
            c.rows[s / 4][s % 4] = newPart(kind, span, 0, side);
        }
        for (int k = 0; k < 6; k++) {
            Condition n = new Condition();
            n.seat = k == 0 ? -1 : seats[draw(4)];
            n.looks = seats[draw(4)];
            Part p = c.comeTo(n.looks);
            n.truths = new boolean[p.kind == 4 ? 2 : p.span];
            for (int i = 0; i < n.truths.length; i++) {
                if (k == 0) {
                    n.truths[i] = i == n.truths.length - 1;
                } else {
                    n.truths[i] = draw(3) != 0;
                }
            }
            c.conditions.add(n);
        }
        return c;
    }

    int make(int chest, int x, int moves) {
        return call(() -> {
            Chest c = of(chest);
            need(moves >= 0 && moves <= 40, -3);
            search = null;
            for (int k = 0; k <= 5; k++) {
                Chest made = byNumber(x + k);
                boolean was = silent;
                silent = true;
                Search s = new Search(made, -1);
                s.takeUpTo(2000);
                silent = was;
                if (s.wayMoves() != null && s.wayMoves().size() == moves) {
                    made.jam = c.jam;
                    made.sticks = c.sticks;
                    chests[chest] = made;
                    return built(chest, k);
                }
            }
            return -1;
        });
    }

    // ---- what is asked

    int told(int chest, int seat, int what) {
        return call(() -> {
            Chest c = of(chest);
            need(what >= 0 && what <= 3, -2);
            seatIs(seat);
            Part p = c.comeTo(seat);
            return new int[] {p.kind, p.span, p.at, p.side}[what];
        });
    }

    int tell(int chest, int seat) {
        traced.clear();
        return call(() -> {
            Chest c = of(chest);
            seatIs(seat);
            return c.tellsAt(seat);
        });
    }

    int conditionTold(int chest, int condition, int what) {
        return call(() -> {
            Condition k = of(chest, condition);
            need(what >= 0 && what <= 8, -2);
            if (what < 2) {
                return what == 0 ? k.seat : k.looks;
            }
            if (k.truths == null) {
                return -1;
            }
            if (what == 2) {
                return k.truths.length;
            }
            return what - 3 >= k.truths.length ? -1 : k.truths[what - 3] ? 1 : 0;
        });
    }

    int holds(int chest, int condition) {
        return call(() -> {
            of(chest, condition);
            List<Integer> before = new ArrayList<>(traced);
            try {
                return of(chest).conditionHolds(condition) ? 1 : 0;
            } finally {
                traced.clear();
                traced.addAll(before);
            }
        });
    }

    int may(int chest, int move) {
        traced.clear();
        return call(() -> {
            Chest c = of(chest);
            moveIs(move, -3);
            return c.mayBe(move) ? 1 : 0;
        });
    }

    int barredBy(int chest, int move) {
        traced.clear();
        return call(() -> {
            Chest c = of(chest);
            moveIs(move, -6);
            return c.bars(move);
        });
    }

    int isOpen(int chest) {
        traced.clear();
        return call(() -> of(chest).open() ? 1 : 0);
    }

    int product(int chest) {
        return call(() -> of(chest).product());
    }

    int state(int chest) {
        return call(() -> of(chest).number());
    }

    int ofNumber(int chest, int number) {
        return call(() -> {
            Chest c = of(chest);
            need(number >= 0 && number < c.product(), -3);
            int before = c.number();
            c.stand(number);
            return before;
        });
    }

    // ---- moves

    int place(int chest, int seat, int at) {
        return call(() -> {
            Chest c = of(chest);
            seatIs(seat);
            Part p = c.comeTo(seat);
            needFinding(at >= 0 && at < p.span, BEYOND);
            int before = p.at;
            p.at = at;
            return before;
        });
    }

    int move(int chest, int move) {
        traced.clear();
        return call(() -> {
            Chest c = of(chest);
            moveIs(move, -3);
            int before = c.number();
            if (!c.perform(move)) {
                return 0;
            }
            c.keep(before);
            return 1;
        });
    }

    int type(int move) {
        return call(() -> {
            moveIs(move, -3);
            need(typedRow.size() < 40, -5);
            typedRow.add(move);
            return typedRow.size();
        });
    }

    int untype() {
        return call(() -> {
            int before = typedRow.size();
            typedRow.clear();
            return before;
        });
    }

    int play(int chest) {
        traced.clear();
        return call(() -> {
            Chest c = of(chest);
            int done = 0;
            try {
                for (int m : typedRow) {
                    int before = c.number();
                    if (!c.perform(m)) {
                        break;
                    }
                    c.keep(before);
                    done++;
                }
            } catch (Finding f) {
                note(f);
            }
            return done;
        });
    }

    int attempt(int chest) {
        traced.clear();
        return call(() -> {
            Chest c = of(chest);
            int before = c.number();
            ArrayDeque<Integer> keptBefore = c.kept.clone();
            tried = new int[] {0, -1, 0};
            boolean fine = true;
            for (int m : typedRow) {
                int number = c.number();
                try {
                    fine = c.perform(m);
                } catch (Finding f) {
                    note(f);
                    tried[2] = f.number;
                    fine = false;
                }
                if (!fine) {
                    tried[1] = m;
                    break;
                }
                c.keep(number);
                tried[0]++;
            }
            if (fine && c.open()) {
                return 1;
            }
            c.stand(before);
            c.kept = keptBefore;
            return 0;
        });
    }

    int attempted(int what) {
        return call(() -> {
            need(what >= 0 && what <= 2, -2);
            return tried[what];
        });
    }

    int back(int chest) {
        return call(() -> {
            Chest c = of(chest);
            need(!c.kept.isEmpty(), -4);
            c.stand(c.kept.peekLast());
            return c.kept.removeLast();
        });
    }

    // ---- searches

    int search(int chest, int n) {
        return call(() -> {
            Chest c = of(chest);
            need(n >= 1 && n <= 1000, -3);
            silent = true;
            search = new Search(c, chest);
            search.takeUpTo(n);
            silent = false;
            return search.whole() ? 1 : 0;
        });
    }

    int goOn(int n) {
        return call(() -> {
            need(n >= 1 && n <= 1000, -3);
            need(search != null && !search.over, -4);
            silent = true;
            search.takeUpTo(n);
            silent = false;
            return search.whole() ? 1 : 0;
        });
    }

    int searched(int what) {
        return call(() -> {
            need(what >= 0 && what <= 6, -2);
            if (search == null) {
                return -1;
            }
            int greatest = 0;
            for (int l : search.layers.values()) {
                greatest = Math.max(greatest, l);
            }
            return new int[] {search.order.size(), search.taken, greatest + 1, search.chest,
                search.whole() ? 1 : 0, search.over ? 1 : 0, search.start}[what];
        });
    }

    int ordered(int order) {
        return call(() -> search == null || order < 0 || order >= search.order.size() ? -1 : search.order.get(order));
    }

    int layer(int number) {
        return call(() -> search == null ? -1 : search.layers.getOrDefault(number, -1));
    }

    int shortest() {
        return call(() -> {
            need(search != null && !search.over, -4);
            List<Integer> way = search.wayMoves();
            return way != null ? way.size() : search.whole() ? -1 : -9;
        });
    }

    int way(int k) {
        return call(() -> {
            List<Integer> way = search == null ? null : search.wayMoves();
            return way == null || k < 0 || k >= way.size() ? -1 : way.get(k);
        });
    }

    int along(int k) {
        return call(() -> {
            List<Integer> way = search == null ? null : search.wayMoves();
            if (way == null || k < 0 || k > way.size()) {
                return -1;
            }
            int n = search.start;
            for (int i = 0; i < k; i++) {
                n = behind(search.own, n, way.get(i));
            }
            return n;
        });
    }

    private void needFinished() {
        need(search != null && !search.over && search.whole(), -4);
    }

    int trap(int number) {
        return call(() -> {
            needFinished();
            if (!search.layers.containsKey(number)) {
                return -1;
            }
            return search.farness().containsKey(number) ? 0 : 1;
        });
    }

    int traps() {
        return call(() -> {
            needFinished();
            return search.order.size() - search.farness().size();
        });
    }

    int hint(int chest) {
        return call(() -> {
            Chest c = of(chest);
            needFinished();
            need(search.chest == chest, -4);
            Map<Integer, Integer> far = search.farness();
            Integer here = far.get(c.number());
            if (here == null || here == 0) {
                return -1;
            }
            for (int m = 0; m < 38; m++) {
                Integer there = far.get(behind(c, c.number(), m));
                if (there != null && there == here - 1) {
                    return m;
                }
            }
            return -1;
        });
    }

    // ---- marks

    int mark(int from, int n, boolean v) {
        return call(() -> {
            need(from >= 0 && from <= 1024 && n >= 0 && n <= 1024 && from + n <= 1024, -3);
            int changed = 0;
            for (int i = from; i < from + n; i++) {
                changed += (v ? marks.add(i) : marks.remove(i)) ? 1 : 0;
            }
            return changed;
        });
    }

    int markAll() {
        return call(() -> {
            need(search != null, -4);
            marks.clear();
            marks.addAll(search.order);
            return marks.size();
        });
    }

    int marked(int number) {
        return call(() -> number < 0 || number > 1023 ? -1 : marks.contains(number) ? 1 : 0);
    }

    int shows(int chest) {
        return call(() -> {
            Chest c = of(chest);
            int stood = c.number();
            looked = fault(c, stood);
            c.stand(stood);
            return looked[0] == -1 ? 1 : 0;
        });
    }

    private int[] fault(Chest c, int stood) {
        if (!marks.contains(stood)) {
            return new int[] {stood, -2, -1};
        }
        for (int n : marks) {
            if (n < c.product()) {
                c.stand(n);
                silent = true;
                boolean open = c.open();
                silent = false;
                if (open) {
                    return new int[] {n, -1, -1};
                }
                for (int m = 0; m < 38; m++) {
                    int b = behind(c, n, m);
                    if (b >= 0 && !marks.contains(b)) {
                        return new int[] {n, m, b};
                    }
                }
            }
        }
        return new int[] {-1, -1, -1};
    }

    int shown(int what) {
        return call(() -> {
            need(what >= 0 && what <= 2, -2);
            return looked[what];
        });
    }

    // ---- what is told

    private static boolean isChest(int chest) {
        return chest >= 0 && chest <= 2;
    }

    int alike(int a, int b) {
        if (!isChest(a) || !isChest(b)) {
            return -2;
        }
        return chests[a].written().equals(chests[b].written()) ? 1 : 0;
    }

    int export(int chest) {
        if (!isChest(chest)) {
            return -2;
        }
        outBytes = chests[chest].written();
        return outBytes.size();
    }

    int out(int i) {
        return i < 0 || i >= outBytes.size() ? -1 : outBytes.get(i);
    }

    long digest(int chest) {
        if (!isChest(chest)) {
            return 0;
        }
        long h = 1469598103934665603L;
        for (int b : chests[chest].written()) {
            h = (h ^ b) * 1099511628211L;
        }
        return h;
    }

    int trace(int i) {
        return i < 0 || i >= Math.min(60, traced.size()) ? -1 : traced.get(i);
    }

    int count(int what) {
        if (what < 0 || what > 13) {
            return -2;
        }
        if (what < 3) {
            return chests[what].parts().size();
        }
        if (what < 6) {
            return chests[what - 3].conditions.size();
        }
        if (what < 9) {
            return chests[what - 6].kept.size();
        }
        return new int[] {typedRow.size(), traced.size(), findings, latest, marks.size()}[what - 9];
    }

    int status() {
        return status;
    }
}
