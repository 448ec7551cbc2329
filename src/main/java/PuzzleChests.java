import java.util.Arrays;

/**
 * A workshop of puzzle chests: three chests whose parts slide, turn and fall and bar one another,
 * one search over the states of a chest, one row of moves and one row of marks. The promises that
 * it keeps stand in DOC.md; words in capitals are the document's.
 */
public final class PuzzleChests {
    public static final int NONE = -1, UNKNOWN = -2, OUTSIDE = -3, STATE = -4, FULL = -5, SPENT = -9;

    private static final int CHESTS = 3, ROWS = 4, PLACES = 4, SEATS = 16, SIDES = 6;
    private static final int LONGEST_SPAN = 6, MOST_STATES = 1024;
    private static final int MOST_CONDITIONS = 40, MOST_TRUTHS = 6, OF_OPEN = -1;
    private static final int TILTS = 32, MOVES = 38, MOST_TYPED = 40, MOST_KEPT = 30;
    private static final int MOST_TAKEN = 1000, LONGEST_WAY_MADE = 40, NUMBERS_TRIED = 6;
    private static final int MOST_TRACED = 60, GREATEST_JAM = 99;

    // EMPTY stands where a SEAT has no PART, whatever the reason.
    private static final int EMPTY = -1, BAR = 0, RING = 1, PIN = 2, LATCH = 3, DRAWER = 4, BLANK = 5;

    private static final int NOTHING = 1, BEYOND = 2, UNLIKE = 3, SIZE = 4, JAM = 5;
    private static final int FINDINGS = -10;

    // What barredBy() answers where the PART does not go; OUTSIDE would look the same, so it is told as another.
    private static final int STAYS = -3, OUTSIDE_OF_BARRED = -6;

    private static final int TELLS_PART = 1, TELLS_RING = 2, TELLS_LATCH = 3, TELLS_DRAWER = 4;
    private static final int[] TELLING = {TELLS_PART, TELLS_RING, TELLS_PART, TELLS_LATCH, TELLS_DRAWER, TELLS_PART};
    private static final int GOES_BAR = 11, GOES_RING = 12, FALLS_PIN = 13, GOES_DRAWER = 14, FALLS_LATCH = 15;

    private static final int DONE = 1, NOT_DONE = 0;
    private static final int UNMARKED = -2;

    private final Notes notes;
    private final Chest[] chests;
    private final Chest bench;
    private final Draws draws;
    private final Marks marks;
    private final Written exported;
    private final Written one;
    private final Written other;
    private final int[] typed;
    private final int[] ahead;
    private Search latestSearch;
    private int typedMoves;
    private int lastPerformed;
    private int attemptDone;
    private int attemptStop;
    private int attemptFinding;
    private int refusedWith;

    public PuzzleChests() {
        notes = new Notes();
        chests = new Chest[CHESTS];
        for (int i = 0; i < CHESTS; i++) {
            chests[i] = new Chest(notes);
        }
        bench = new Chest(notes);
        draws = new Draws();
        marks = new Marks();
        exported = new Written();
        one = new Written();
        other = new Written();
        typed = new int[MOST_TYPED];
        ahead = new int[MOST_TYPED];
        attemptStop = NONE;
    }

    // ---- building

    public int row(int chest, int row, int n) {
        if (!isChest(chest) || row < 0 || row >= ROWS) {
            return refused(UNKNOWN);
        }
        if (n > PLACES) {
            return refused(OUTSIDE);
        }
        if (n < NONE) {
            return refused(notes.met(SIZE));
        }
        chests[chest].layRow(row, n);
        return built(chest, 1);
    }

    public int part(int chest, int seat, int kind, int span, int side) {
        if (!isChest(chest)) {
            return refused(UNKNOWN);
        }
        if (!isSeat(seat) || !isPart(kind, span, side)) {
            return refused(OUTSIDE);
        }
        Chest c = chests[chest];
        int finding = c.findingAt(seat, false);
        if (finding != 0) {
            return refused(notes.met(finding));
        }
        if (c.productWith(seat, span) > MOST_STATES) {
            return refused(FULL);
        }
        c.put(seat, kind, span, side);
        return built(chest, c.parts);
    }

    public int take(int chest, int seat) {
        int refusal = refusalOfPart(chest, seat);
        if (refusal != 0) {
            return refused(refusal);
        }
        chests[chest].remove(seat);
        return built(chest, chests[chest].parts);
    }

    public int condition(int chest, int seat, int looks, int n) {
        if (!isChest(chest)) {
            return refused(UNKNOWN);
        }
        if ((seat != OF_OPEN && !isSeat(seat)) || !isSeat(looks) || n > MOST_TRUTHS) {
            return refused(OUTSIDE);
        }
        if (n < NONE) {
            return refused(notes.met(SIZE));
        }
        Chest c = chests[chest];
        if (c.conditions.number >= MOST_CONDITIONS) {
            return refused(FULL);
        }
        return built(chest, c.addCondition(seat, looks, n));
    }

    public int truth(int chest, int condition, int i, boolean v) {
        if (!isCondition(chest, condition)) {
            return refused(UNKNOWN);
        }
        Chest c = chests[chest];
        int finding = c.conditions.findingOfTruths(condition, i, 1);
        if (finding != 0) {
            return refused(notes.met(finding));
        }
        int before = c.conditions.truthAt(condition, i);
        c.setTruths(condition, i, 1, v ? 1 : 0);
        return built(chest, before);
    }

    public int copyTruths(int chest, int to, int i, int from, int j, int n) {
        if (!isCondition(chest, to) || !isCondition(chest, from)) {
            return refused(UNKNOWN);
        }
        Chest c = chests[chest];
        if (c.conditions.size[to] == NONE || c.conditions.size[from] == NONE) {
            return refused(notes.met(NOTHING));
        }
        if (c.conditions.findingOfTruths(to, i, n) != 0 || c.conditions.findingOfTruths(from, j, n) != 0) {
            return refused(notes.met(BEYOND));
        }
        c.setTruths(to, i, n, c.conditions.truths[from] >> j);
        return built(chest, n);
    }

    public int jam(int chest, int jam, int seat) {
        if (!isChest(chest)) {
            return refused(UNKNOWN);
        }
        if (jam < 0 || jam > GREATEST_JAM || (seat != NONE && !isSeat(seat))) {
            return refused(OUTSIDE);
        }
        Chest c = chests[chest];
        int before = c.jam;
        c.jam = jam;
        c.sticks = seat;
        return answered(before);
    }

    public int clear(int chest) {
        if (!isChest(chest)) {
            return refused(UNKNOWN);
        }
        Chest c = chests[chest];
        int before = c.parts;
        c.empty();
        c.jam = 0;
        c.sticks = NONE;
        return built(chest, before);
    }

    public int copy(int a, int b) {
        if (!isChest(a) || !isChest(b)) {
            return refused(UNKNOWN);
        }
        Chest c = chests[b];
        c.become(chests[a]);
        c.jam = chests[a].jam;
        c.sticks = chests[a].sticks;
        return built(b, c.parts);
    }

    public int make(int chest, int x, int moves) {
        if (!isChest(chest)) {
            return refused(UNKNOWN);
        }
        if (moves < 0 || moves > LONGEST_WAY_MADE) {
            return refused(OUTSIDE);
        }
        Search s = searchToUse();
        int made = NONE;
        for (int i = 0; i < NUMBERS_TRIED && made == NONE; i++) {
            draws.drawChest(bench, x + i);
            s.begin(bench, NONE);
            s.takeMore(MOST_STATES);
            if (s.wayLength() == moves) {
                made = i;
            }
        }
        s.there = false;
        if (made == NONE) {
            return answered(NONE);
        }
        chests[chest].become(bench);
        return built(chest, made);
    }

    // ---- what is asked

    public int told(int chest, int seat, int what) {
        if (!isChest(chest) || what < 0 || what > 3) {
            return refused(UNKNOWN);
        }
        int refusal = refusalOfPart(chest, seat);
        if (refusal != 0) {
            return refused(refusal);
        }
        Chest c = chests[chest];
        switch (what) {
            case 0:
                return answered(c.kind[seat]);
            case 1:
                return answered(c.span[seat]);
            case 2:
                return answered(c.at[seat]);
            default:
                return answered(c.side[seat]);
        }
    }

    public int tell(int chest, int seat) {
        notes.emptyTrace();
        int refusal = refusalOfPart(chest, seat);
        if (refusal != 0) {
            return refused(refusal);
        }
        Chest c = chests[chest];
        if (c.kind[seat] == BLANK) {
            return refused(notes.met(UNLIKE));
        }
        notes.writeTelling(c.kind[seat]);
        return answered(Chest.numberTold(c.kind[seat], c.span[seat], c.at[seat]));
    }

    public int conditionTold(int chest, int condition, int what) {
        if (!isCondition(chest, condition) || what < 0 || what > 2 + MOST_TRUTHS) {
            return refused(UNKNOWN);
        }
        Conditions c = chests[chest].conditions;
        switch (what) {
            case 0:
                return answered(c.seat[condition]);
            case 1:
                return answered(c.looks[condition]);
            case 2:
                return answered(c.size[condition]);
            default:
                return answered(what - 3 < c.size[condition] ? c.truthAt(condition, what - 3) : NONE);
        }
    }

    public int holds(int chest, int condition) {
        if (!isCondition(chest, condition)) {
            return refused(UNKNOWN);
        }
        int judged = chests[chest].judge(condition, false);
        return judged < 0 ? refused(notes.met(-judged)) : answered(judged);
    }

    public int may(int chest, int move) {
        notes.emptyTrace();
        if (!isChest(chest)) {
            return refused(UNKNOWN);
        }
        if (!isMove(move)) {
            return refused(OUTSIDE);
        }
        return answered(chests[chest].barOf(move) == NONE ? 1 : 0);
    }

    public int barredBy(int chest, int move) {
        notes.emptyTrace();
        if (!isChest(chest)) {
            return refused(UNKNOWN);
        }
        if (!isMove(move)) {
            return refused(OUTSIDE_OF_BARRED);
        }
        int bar = chests[chest].barOf(move);
        return bar < FINDINGS ? refused(bar) : answered(bar);
    }

    public int isOpen(int chest) {
        notes.emptyTrace();
        if (!isChest(chest)) {
            return refused(UNKNOWN);
        }
        return answered(chests[chest].opens(true) ? 1 : 0);
    }

    public int product(int chest) {
        return isChest(chest) ? answered(chests[chest].product) : refused(UNKNOWN);
    }

    public int state(int chest) {
        return isChest(chest) ? answered(chests[chest].number()) : refused(UNKNOWN);
    }

    public int ofNumber(int chest, int number) {
        if (!isChest(chest)) {
            return refused(UNKNOWN);
        }
        Chest c = chests[chest];
        if (number < 0 || number >= c.product) {
            return refused(OUTSIDE);
        }
        int before = c.number();
        c.standAt(number);
        return answered(before);
    }

    // ---- moves

    public int place(int chest, int seat, int at) {
        int refusal = refusalOfPart(chest, seat);
        if (refusal != 0) {
            return refused(refusal);
        }
        Chest c = chests[chest];
        if (at < 0 || at >= c.span[seat]) {
            return refused(notes.met(BEYOND));
        }
        int before = c.at[seat];
        c.at[seat] = at;
        return answered(before);
    }

    public int move(int chest, int move) {
        notes.emptyTrace();
        if (!isChest(chest)) {
            return refused(UNKNOWN);
        }
        if (!isMove(move)) {
            return refused(OUTSIDE);
        }
        Chest c = chests[chest];
        int before = c.number();
        int performed = c.perform(move);
        if (performed == DONE) {
            c.kept.push(before);
        }
        return performed < 0 ? refused(performed) : answered(performed);
    }

    public int type(int move) {
        if (!isMove(move)) {
            return refused(OUTSIDE);
        }
        if (typedMoves >= MOST_TYPED) {
            return refused(FULL);
        }
        typed[typedMoves] = move;
        typedMoves++;
        return answered(typedMoves);
    }

    public int untype() {
        int before = typedMoves;
        typedMoves = 0;
        return answered(before);
    }

    public int play(int chest) {
        notes.emptyTrace();
        if (!isChest(chest)) {
            return refused(UNKNOWN);
        }
        int done = performTyped(chests[chest]);
        chests[chest].kept.pushAll(ahead, done);
        return answered(done);
    }

    public int attempt(int chest) {
        notes.emptyTrace();
        if (!isChest(chest)) {
            return refused(UNKNOWN);
        }
        Chest c = chests[chest];
        int before = c.number();
        int done = performTyped(c);
        attemptDone = done;
        attemptStop = done < typedMoves ? typed[done] : NONE;
        attemptFinding = lastPerformed < 0 ? FINDINGS - lastPerformed : 0;
        if (done < typedMoves || !c.opens(true)) {
            c.standAt(before);
            return answered(0);
        }
        c.kept.pushAll(ahead, done);
        return answered(1);
    }

    public int attempted(int what) {
        switch (what) {
            case 0:
                return answered(attemptDone);
            case 1:
                return answered(attemptStop);
            case 2:
                return answered(attemptFinding);
            default:
                return refused(UNKNOWN);
        }
    }

    public int back(int chest) {
        if (!isChest(chest)) {
            return refused(UNKNOWN);
        }
        Chest c = chests[chest];
        if (c.kept.held == 0) {
            return refused(STATE);
        }
        int number = c.kept.pop();
        c.standAt(number);
        return answered(number);
    }

    // ---- searches

    public int search(int chest, int n) {
        if (!isChest(chest)) {
            return refused(UNKNOWN);
        }
        if (n < 1 || n > MOST_TAKEN) {
            return refused(OUTSIDE);
        }
        Search s = searchToUse();
        s.begin(chests[chest], chest);
        s.takeMore(n);
        return answered(s.isWhole() ? 1 : 0);
    }

    public int goOn(int n) {
        if (n < 1 || n > MOST_TAKEN) {
            return refused(OUTSIDE);
        }
        Search s = searchNotOver();
        if (s == null) {
            return refused(STATE);
        }
        s.takeMore(n);
        return answered(s.isWhole() ? 1 : 0);
    }

    public int searched(int what) {
        if (what < 0 || what > 6) {
            return refused(UNKNOWN);
        }
        Search s = searchThere();
        return answered(s == null ? NONE : s.about(what));
    }

    public int ordered(int order) {
        Search s = searchThere();
        return answered(s != null && order >= 0 && order < s.come ? s.numberOf[order] : NONE);
    }

    public int layer(int number) {
        Search s = searchThere();
        if (s == null) {
            return answered(NONE);
        }
        int order = s.orderOf(number);
        return answered(order == NONE ? NONE : s.layerOf[order]);
    }

    public int shortest() {
        Search s = searchNotOver();
        if (s == null) {
            return refused(STATE);
        }
        int length = s.wayLength();
        return answered(length == NONE && !s.isWhole() ? SPENT : length);
    }

    public int way(int k) {
        Search s = searchThere();
        if (s == null || k < 0 || k >= s.wayLength()) {
            return answered(NONE);
        }
        return answered(s.moveTo[s.orderOnWay(k + 1)]);
    }

    public int along(int k) {
        Search s = searchThere();
        if (s == null || k < 0 || k > s.wayLength()) {
            return answered(NONE);
        }
        return answered(s.numberOf[s.orderOnWay(k)]);
    }

    public int trap(int number) {
        Search s = searchFinished();
        if (s == null) {
            return refused(STATE);
        }
        int order = s.orderOf(number);
        if (order == NONE) {
            return answered(NONE);
        }
        s.measure();
        return answered(s.farness[order] == NONE ? 1 : 0);
    }

    public int traps() {
        Search s = searchFinished();
        if (s == null) {
            return refused(STATE);
        }
        s.measure();
        return answered(s.numberOfTraps());
    }

    public int hint(int chest) {
        if (!isChest(chest)) {
            return refused(UNKNOWN);
        }
        Search s = searchFinished();
        if (s == null || s.chestNumber != chest) {
            return refused(STATE);
        }
        s.measure();
        return answered(s.moveNearer());
    }

    // ---- marks

    public int mark(int from, int n, boolean v) {
        if (from < 0 || from > MOST_STATES || n < 0 || n > MOST_STATES - from) {
            return refused(OUTSIDE);
        }
        return answered(marks.put(from, n, v));
    }

    public int markAll() {
        Search s = searchThere();
        if (s == null) {
            return refused(STATE);
        }
        marks.put(0, MOST_STATES, false);
        for (int order = 0; order < s.come; order++) {
            marks.isMarked[s.numberOf[order]] = true;
        }
        return answered(s.come);
    }

    public int marked(int number) {
        if (number < 0 || number >= MOST_STATES) {
            return answered(NONE);
        }
        return answered(marks.isMarked[number] ? 1 : 0);
    }

    public int shows(int chest) {
        if (!isChest(chest)) {
            return refused(UNKNOWN);
        }
        return answered(marks.prove(chests[chest]) ? 1 : 0);
    }

    public int shown(int what) {
        switch (what) {
            case 0:
                return answered(marks.lookedState);
            case 1:
                return answered(marks.lookedMove);
            case 2:
                return answered(marks.lookedBehind);
            default:
                return refused(UNKNOWN);
        }
    }

    // ---- what is told: these leave what status() answers

    public int alike(int a, int b) {
        if (!isChest(a) || !isChest(b)) {
            return UNKNOWN;
        }
        one.write(chests[a]);
        other.write(chests[b]);
        return one.isLike(other) ? 1 : 0;
    }

    public int export(int chest) {
        if (!isChest(chest)) {
            return UNKNOWN;
        }
        exported.write(chests[chest]);
        return exported.length;
    }

    public int out(int i) {
        return i >= 0 && i < exported.length ? exported.bytes[i] : NONE;
    }

    public long digest(int chest) {
        if (!isChest(chest)) {
            return 0;
        }
        one.write(chests[chest]);
        return one.hash();
    }

    public int trace(int i) {
        return notes.tracedAt(i);
    }

    public int count(int what) {
        if (what < 0 || what > 13) {
            return UNKNOWN;
        }
        if (what < 3 * CHESTS) {
            return countOfChest(chests[what % CHESTS], what / CHESTS);
        }
        switch (what) {
            case 9:
                return typedMoves;
            case 10:
                return notes.traced;
            case 11:
                return notes.findings;
            case 12:
                return notes.latestFinding;
            default:
                return marks.number();
        }
    }

    public int status() {
        return refusedWith;
    }

    private int refused(int answer) {
        refusedWith = answer;
        return answer;
    }

    private int answered(int answer) {
        refusedWith = 0;
        return answer;
    }

    /** Whatever was built, states kept and searched may no longer be states of the CHEST. */
    private int built(int chest, int answer) {
        chests[chest].kept.letGo();
        if (latestSearch != null && latestSearch.chestNumber == chest) {
            latestSearch.over = true;
        }
        return answered(answer);
    }

    private static boolean isChest(int chest) {
        return chest >= 0 && chest < CHESTS;
    }

    private static boolean isSeat(int seat) {
        return seat >= 0 && seat < SEATS;
    }

    private static boolean isMove(int move) {
        return move >= 0 && move < MOVES;
    }

    private static boolean isPart(int kind, int span, int side) {
        return kind >= BAR && kind <= BLANK && span >= 1 && span <= (kind == BLANK ? 1 : LONGEST_SPAN)
            && side >= 0 && side < SIDES;
    }

    private boolean isCondition(int chest, int condition) {
        return isChest(chest) && condition >= 0 && condition < chests[chest].conditions.number;
    }

    /** What a call is refused with that needs the PART of a SEAT; 0: the PART is there. */
    private int refusalOfPart(int chest, int seat) {
        if (!isChest(chest)) {
            return UNKNOWN;
        }
        if (!isSeat(seat)) {
            return OUTSIDE;
        }
        int finding = chests[chest].findingAt(seat, true);
        return finding == 0 ? 0 : notes.met(finding);
    }

    private static int countOfChest(Chest chest, int what) {
        switch (what) {
            case 0:
                return chest.parts;
            case 1:
                return chest.conditions.number;
            default:
                return chest.kept.held;
        }
    }

    /** The states ahead of the moves are laid aside, as an attempt may yet have nothing to keep. */
    private int performTyped(Chest chest) {
        lastPerformed = DONE;
        int done = 0;
        while (done < typedMoves) {
            ahead[done] = chest.number();
            lastPerformed = chest.perform(typed[done]);
            if (lastPerformed != DONE) {
                break;
            }
            done++;
        }
        return done;
    }

    /** Its rows are long and many objects never search, so they are made when first needed, once. */
    private Search searchToUse() {
        if (latestSearch == null) {
            latestSearch = new Search(bench);
        }
        return latestSearch;
    }

    private Search searchThere() {
        return latestSearch != null && latestSearch.there ? latestSearch : null;
    }

    private Search searchNotOver() {
        Search s = searchThere();
        return s != null && !s.over ? s : null;
    }

    private Search searchFinished() {
        Search s = searchNotOver();
        return s != null && s.isWhole() ? s : null;
    }

    /** THE TRACE and the FINDINGS, of the whole house. */
    private static final class Notes {
        private final int[] trace = new int[MOST_TRACED];
        int traced;
        int findings;
        int latestFinding;

        void emptyTrace() {
            traced = 0;
        }

        void write(int number) {
            if (traced < MOST_TRACED) {
                trace[traced] = number;
            }
            traced++;
        }

        /** A KIND with a body of its own for telling goes on from it into that of a PART. */
        void writeTelling(int kind) {
            int own = TELLING[kind];
            for (int i = own == TELLS_PART ? 1 : 0; i < 2; i++) {
                if (traced < MOST_TRACED) {
                    trace[traced] = i == 0 ? own : TELLS_PART;
                }
                traced++;
            }
        }

        int tracedAt(int i) {
            return i >= 0 && i < MOST_TRACED && i < traced ? trace[i] : NONE;
        }

        int met(int finding) {
            findings++;
            latestFinding = finding;
            return FINDINGS - finding;
        }
    }

    /** The NUMBERS of the latest STATES that back() may bring again; the oldest makes room. */
    private static final class Kept {
        private final int[] numbers = new int[MOST_KEPT];
        private int next;
        int held;

        void push(int number) {
            numbers[next] = number;
            next = next + 1 < MOST_KEPT ? next + 1 : 0;
            held = Math.min(held + 1, MOST_KEPT);
        }

        void pushAll(int[] row, int n) {
            for (int i = 0; i < n && i < row.length; i++) {
                push(row[i]);
            }
        }

        int pop() {
            if (held == 0) {
                return NONE;
            }
            held--;
            next = next > 0 ? next - 1 : MOST_KEPT - 1;
            return numbers[next];
        }

        void letGo() {
            held = 0;
        }
    }

    /** The CONDITIONS of one CHEST. A row of TRUTHS is held as bits, as is what follows from it. */
    private static final class Conditions {
        final int[] seat = new int[MOST_CONDITIONS];
        final int[] looks = new int[MOST_CONDITIONS];
        final int[] size = new int[MOST_CONDITIONS];
        final int[] truths = new int[MOST_CONDITIONS];
        // Bit a: whether it HOLDS while the PART that it LOOKS at is AT a. Searches ask so often that it is kept.
        final int[] holdsAt = new int[MOST_CONDITIONS];
        // Numbers of CONDITIONS by what they are of: those of SEAT s from start[s + 1] on, those of OPEN first.
        final int[] sorted = new int[MOST_CONDITIONS];
        final int[] start = new int[SEATS + 2];
        int number;

        void add(int ofSeat, int looksAt, int n) {
            if (number >= MOST_CONDITIONS) {
                return;
            }
            seat[number] = ofSeat;
            looks[number] = looksAt;
            size[number] = n;
            truths[number] = 0;
            number++;
            sort();
        }

        void become(Conditions from) {
            number = from.number;
            System.arraycopy(from.seat, 0, seat, 0, number);
            System.arraycopy(from.looks, 0, looks, 0, number);
            System.arraycopy(from.size, 0, size, 0, number);
            System.arraycopy(from.truths, 0, truths, 0, number);
            sort();
        }

        void letGo() {
            number = 0;
            sort();
        }

        private void sort() {
            int n = 0;
            for (int s = OF_OPEN; s < SEATS; s++) {
                start[s + 1] = n;
                for (int c = 0; c < number; c++) {
                    if (seat[c] == s) {
                        sorted[n] = c;
                        n++;
                    }
                }
            }
            start[SEATS + 1] = n;
        }

        int truthAt(int condition, int i) {
            return truths[condition] >> i & 1;
        }

        int findingOfTruths(int condition, int i, int n) {
            if (size[condition] == NONE) {
                return NOTHING;
            }
            return i < 0 || n < 0 || n > size[condition] || i > size[condition] - n ? BEYOND : 0;
        }

        void setBits(int condition, int i, int n, int bits) {
            int some = (1 << n) - 1;
            truths[condition] = truths[condition] & ~(some << i) | (bits & some) << i;
        }

        boolean anyOf(int ofSeat) {
            return start[ofSeat + 1] < start[ofSeat + 2];
        }
    }

    /** One CHEST. A SEAT without a PART has SPAN 1 and AT 0, so that it adds nothing to a NUMBER. */
    private static final class Chest {
        private final Notes notes;
        final int[] places = new int[ROWS];
        final int[] kind = new int[SEATS];
        final int[] span = new int[SEATS];
        final int[] at = new int[SEATS];
        final int[] side = new int[SEATS];
        private final int[] weight = new int[SEATS];
        private final int[] aheadOfTilt = new int[SEATS];
        final Conditions conditions = new Conditions();
        final Kept kept = new Kept();
        private boolean hasFallers;
        int product;
        int parts;
        int jam;
        int sticks;

        Chest(Notes notes) {
            this.notes = notes;
            sticks = NONE;
            empty();
        }

        void empty() {
            conditions.letGo();
            for (int r = 0; r < ROWS; r++) {
                layRow(r, NONE);
            }
        }

        void become(Chest from) {
            System.arraycopy(from.places, 0, places, 0, ROWS);
            System.arraycopy(from.kind, 0, kind, 0, SEATS);
            System.arraycopy(from.span, 0, span, 0, SEATS);
            System.arraycopy(from.at, 0, at, 0, SEATS);
            System.arraycopy(from.side, 0, side, 0, SEATS);
            conditions.become(from.conditions);
            settle();
        }

        void layRow(int r, int n) {
            places[r] = n;
            for (int p = 0; p < PLACES; p++) {
                setPart(r * PLACES + p, EMPTY, 1, 0);
            }
            settle();
        }

        void put(int seat, int itsKind, int itsSpan, int itsSide) {
            setPart(seat, itsKind, itsSpan, itsSide);
            settle();
        }

        void remove(int seat) {
            setPart(seat, EMPTY, 1, 0);
            settle();
        }

        private void setPart(int seat, int itsKind, int itsSpan, int itsSide) {
            kind[seat] = itsKind;
            span[seat] = itsSpan;
            at[seat] = 0;
            side[seat] = itsSide;
        }

        int addCondition(int ofSeat, int looksAt, int n) {
            conditions.add(ofSeat, looksAt, n);
            settle();
            return conditions.number - 1;
        }

        void setTruths(int condition, int i, int n, int bits) {
            conditions.setBits(condition, i, n, bits);
            settle();
        }

        /** What follows from PARTS and CONDITIONS alone, wherever the PARTS are AT. */
        private void settle() {
            product = 1;
            parts = 0;
            hasFallers = false;
            for (int seat = 0; seat < SEATS; seat++) {
                weight[seat] = product;
                product *= span[seat];
                parts += kind[seat] == EMPTY ? 0 : 1;
                hasFallers |= isFaller(kind[seat]);
            }
            for (int c = 0; c < conditions.number; c++) {
                conditions.holdsAt[c] = placesWhereHolds(c);
            }
        }

        private int placesWhereHolds(int condition) {
            int seat = conditions.looks[condition];
            if (kind[seat] == EMPTY || kind[seat] == BLANK) {
                return 0;
            }
            int bits = 0;
            for (int a = 0; a < span[seat]; a++) {
                int told = numberTold(kind[seat], span[seat], a);
                if (told < conditions.size[condition] && conditions.truthAt(condition, told) == 1) {
                    bits |= 1 << a;
                }
            }
            return bits;
        }

        int productWith(int seat, int itsSpan) {
            int all = itsSpan;
            for (int s = 0; s < SEATS; s++) {
                if (s != seat) {
                    all *= span[s];
                }
            }
            return all;
        }

        /** The FINDING as one COMES to a SEAT, or just to its PLACE; 0: none. */
        int findingAt(int seat, boolean needsPart) {
            int n = places[seat / PLACES];
            if (n == NONE) {
                return NOTHING;
            }
            if (seat % PLACES >= n) {
                return BEYOND;
            }
            return needsPart && kind[seat] == EMPTY ? NOTHING : 0;
        }

        int number() {
            int all = 0;
            for (int seat = 0; seat < SEATS; seat++) {
                all += at[seat] * weight[seat];
            }
            return all;
        }

        void standAt(int number) {
            int rest = number;
            for (int seat = 0; seat < SEATS; seat++) {
                if (span[seat] > 1) {
                    at[seat] = rest % span[seat];
                    rest /= span[seat];
                }
            }
        }

        static int numberTold(int kind, int span, int at) {
            switch (kind) {
                case RING:
                    return at + 1 < span ? at + 1 : 0;
                case LATCH:
                    return span - 1 - at;
                case DRAWER:
                    return at == 0 ? 0 : 1;
                default:
                    return at;
            }
        }

        /** Whether a CONDITION HOLDS: 1, 0, or below 0: a FINDING (not noted), negated. */
        int judge(int condition, boolean traced) {
            int seat = conditions.looks[condition];
            int finding = findingAt(seat, true);
            if (finding != 0) {
                return -finding;
            }
            if (kind[seat] == BLANK) {
                return -UNLIKE;
            }
            if (traced) {
                notes.writeTelling(kind[seat]);
            }
            int told = numberTold(kind[seat], span[seat], at[seat]);
            finding = conditions.findingOfTruths(condition, told, 1);
            return finding != 0 ? -finding : conditions.truthAt(condition, told);
        }

        /** The first CONDITION of a SEAT (or of OPEN) that does not hold; what is not noted asks the bits kept. */
        private int firstThatFails(int ofSeat, boolean noted) {
            for (int i = conditions.start[ofSeat + 1]; i < conditions.start[ofSeat + 2]; i++) {
                int c = conditions.sorted[i];
                int judged = noted ? judge(c, true) : conditions.holdsAt[c] >> at[conditions.looks[c]] & 1;
                if (judged < 0) {
                    notes.met(-judged);
                }
                if (judged != 1) {
                    return c;
                }
            }
            return NONE;
        }

        boolean opens(boolean noted) {
            return conditions.anyOf(OF_OPEN) && firstThatFails(OF_OPEN, noted) == NONE;
        }

        private static boolean isHandled(int kind) {
            return kind == BAR || kind == RING || kind == DRAWER;
        }

        private static boolean isFaller(int kind) {
            return kind == PIN || kind == LATCH;
        }

        private static int bodyOfGoing(int kind) {
            switch (kind) {
                case RING:
                    return GOES_RING;
                case DRAWER:
                    return GOES_DRAWER;
                default:
                    return GOES_BAR;
            }
        }

        /** Where a MOVE brings the PART of its SEAT; NONE: it does not go. */
        private int goalOf(int move) {
            int seat = move / 2;
            int to = move % 2 == 0 ? at[seat] - 1 : at[seat] + 1;
            if (to >= 0 && to < span[seat]) {
                return to;
            }
            if (kind[seat] == RING) {
                return to < 0 ? span[seat] - 1 : 0;
            }
            return NONE;
        }

        /** What BARS a MOVE, noted: NONE, -10 less a FINDING, STAYS, or a CONDITION. */
        int barOf(int move) {
            if (move >= TILTS) {
                return NONE;
            }
            int seat = move / 2;
            int finding = findingAt(seat, true);
            if (finding == 0 && !isHandled(kind[seat])) {
                finding = UNLIKE;
            }
            if (finding != 0) {
                return notes.met(finding);
            }
            notes.write(bodyOfGoing(kind[seat]));
            return goalOf(move) == NONE ? STAYS : firstThatFails(seat, true);
        }

        /** DONE, NOT_DONE (it MAY not be), or -10 less the FINDING by which it is STUCK. */
        int perform(int move) {
            if (barOf(move) != NONE) {
                return NOT_DONE;
            }
            if (move >= TILTS) {
                tilt(move - TILTS, true);
                return DONE;
            }
            int seat = move / 2;
            if (seat == sticks) {
                return notes.met(jam == 0 ? NOTHING : JAM);
            }
            at[seat] = goalOf(move);
            return DONE;
        }

        /** The NUMBER behind a MOVE from the STATE of this number, where all stands and stays; NONE: it MAY not be. */
        int numberBehind(int move, int number) {
            if (move >= TILTS && !hasFallers) {
                return number;
            }
            if (move >= TILTS) {
                System.arraycopy(at, 0, aheadOfTilt, 0, SEATS);
                tilt(move - TILTS, false);
                int behind = number();
                System.arraycopy(aheadOfTilt, 0, at, 0, SEATS);
                return behind;
            }
            int seat = move / 2;
            if (!isHandled(kind[seat])) {
                return NONE;
            }
            int to = goalOf(move);
            if (to == NONE || firstThatFails(seat, false) != NONE) {
                return NONE;
            }
            return number + (to - at[seat]) * weight[seat];
        }

        private void tilt(int t, boolean noted) {
            for (int seat = 0; seat < SEATS; seat++) {
                int step = stepOfFall(seat, t);
                boolean goesOn = step != 0 && beginsToFall(seat, noted);
                for (int i = 1; i < span[seat] && goesOn; i++) {
                    int to = at[seat] + step;
                    goesOn = to >= 0 && to < span[seat] && firstThatFails(seat, noted) == NONE;
                    if (goesOn) {
                        at[seat] = to;
                    }
                }
            }
        }

        private int stepOfFall(int seat, int t) {
            if (!isFaller(kind[seat])) {
                return 0;
            }
            if (side[seat] == t) {
                return 1;
            }
            return side[seat] == (t ^ 1) ? -1 : 0;
        }

        private boolean beginsToFall(int seat, boolean noted) {
            if (kind[seat] == LATCH) {
                if (noted) {
                    notes.write(FALLS_LATCH);
                }
                if (at[seat] == span[seat] - 1) {
                    return false;
                }
            }
            if (noted) {
                notes.write(FALLS_PIN);
            }
            return true;
        }
    }

    /** Draws the CHEST BY A NUMBER. */
    private static final class Draws {
        private static final int[] SEATS_DRAWN = {0, 1, 4, 5};
        private static final int CONDITIONS_DRAWN = 6;
        private int x;

        void drawChest(Chest chest, int from) {
            x = from;
            chest.empty();
            chest.layRow(0, 2);
            chest.layRow(1, 2);
            for (int i = 0; i < SEATS_DRAWN.length; i++) {
                int kind = below(5);
                int span = 2 + below(3);
                chest.put(SEATS_DRAWN[i], kind, span, below(6));
            }
            for (int k = 0; k < CONDITIONS_DRAWN; k++) {
                drawCondition(chest, k == 0);
            }
        }

        private void drawCondition(Chest chest, boolean ofOpen) {
            int seat = ofOpen ? OF_OPEN : drawSeat();
            int looks = drawSeat();
            int n = chest.kind[looks] == DRAWER ? 2 : chest.span[looks];
            int bits = 0;
            for (int i = 0; i < n; i++) {
                boolean v = ofOpen ? i == n - 1 : below(3) != 0;
                bits |= v ? 1 << i : 0;
            }
            chest.setTruths(chest.addCondition(seat, looks, n), 0, n, bits);
        }

        private int drawSeat() {
            int i = below(SEATS_DRAWN.length);
            return i >= 0 && i < SEATS_DRAWN.length ? SEATS_DRAWN[i] : 0;
        }

        private int below(int n) {
            x = x * 1103515245 + 12345;
            return n > 0 ? (x >>> 16) % n : 0;
        }
    }

    /**
     * For each STATE COME TO, by ORDER, from which others a MOVE leads to it. Of one STATE at most 12 others
     * are one MOVE away: a SPAN of 2 gives one neighbour, a longer SPAN (or tilts on one axis) two, and 13
     * neighbours would take a PRODUCT of 3 to the 6th times 2, which is above 1024.
     */
    private static final class Roads {
        private static final int MOST_ROADS = 12 * MOST_STATES;
        private final int[] latest = new int[MOST_STATES];
        // From where a road leads, and times MOST_STATES 1 more than the road to the same STATE that came before it.
        private final int[] roads = new int[MOST_ROADS];
        private int number;

        void letGo() {
            number = 0;
            Arrays.fill(latest, NONE);
        }

        /** Roads come by where they lead from, so a second one between the same two STATES meets the first. */
        void add(int from, int to) {
            int before = latest[to];
            boolean isSame = before != NONE && from(before) == from;
            if (!isSame && number < MOST_ROADS) {
                roads[number] = from + MOST_STATES * (before + 1);
                latest[to] = number;
                number++;
            }
        }

        int latestTo(int to) {
            return latest[to];
        }

        int from(int road) {
            return roads[road] % MOST_STATES;
        }

        int before(int road) {
            return roads[road] / MOST_STATES - 1;
        }
    }

    /** THE SEARCH. What it came to is held by ORDER, and stays as it is when it is OVER. */
    private static final class Search {
        final int[] numberOf = new int[MOST_STATES];
        final int[] layerOf = new int[MOST_STATES];
        final int[] moveTo = new int[MOST_STATES];
        private final int[] parentOf = new int[MOST_STATES];
        private final int[] orders = new int[MOST_STATES];
        // The fewest MOVES to a STATE that is OPEN; NONE until measured, and of TRAPS behind it.
        final int[] farness = new int[MOST_STATES];
        private final int[] queue = new int[MOST_STATES];
        private final Roads roads = new Roads();
        private Chest chest;
        int chestNumber;
        boolean there;
        boolean over;
        private boolean measured;
        int come;
        private int taken;
        private int firstOpen;

        Search(Chest chest) {
            this.chest = chest;
            chestNumber = NONE;
        }

        void begin(Chest ofChest, int itsNumber) {
            chest = ofChest;
            chestNumber = itsNumber;
            there = true;
            over = false;
            measured = false;
            come = 0;
            taken = 0;
            firstOpen = NONE;
            Arrays.fill(orders, NONE);
            roads.letGo();
            comeTo(chest.number(), NONE, NONE);
            lookForOpen(0);
        }

        void takeMore(int n) {
            int stood = chest.number();
            for (int i = 0; i < n && taken < come; i++) {
                takeNext();
            }
            chest.standAt(stood);
        }

        private void takeNext() {
            int number = numberOf[taken];
            int comeBefore = come;
            chest.standAt(number);
            for (int move = 0; move < MOVES; move++) {
                int behind = chest.numberBehind(move, number);
                if (behind != NONE && behind != number) {
                    comeTo(behind, move, taken);
                    roads.add(taken, orders[behind]);
                }
            }
            taken++;
            for (int order = comeBefore; order < come; order++) {
                chest.standAt(numberOf[order]);
                lookForOpen(order);
            }
        }

        private void comeTo(int number, int move, int parent) {
            if (orders[number] != NONE || come >= MOST_STATES) {
                return;
            }
            orders[number] = come;
            numberOf[come] = number;
            moveTo[come] = move;
            parentOf[come] = parent;
            layerOf[come] = parent == NONE ? 0 : layerOf[parent] + 1;
            come++;
        }

        private void lookForOpen(int order) {
            boolean isOpen = chest.opens(false);
            farness[order] = isOpen ? 0 : NONE;
            if (isOpen && firstOpen == NONE) {
                firstOpen = order;
            }
        }

        boolean isWhole() {
            return taken == come;
        }

        int orderOf(int number) {
            return number >= 0 && number < MOST_STATES ? orders[number] : NONE;
        }

        int about(int what) {
            switch (what) {
                case 0:
                    return come;
                case 1:
                    return taken;
                case 2:
                    return come == 0 ? 0 : layerOf[come - 1] + 1;
                case 3:
                    return chestNumber;
                case 4:
                    return isWhole() ? 1 : 0;
                case 5:
                    return over ? 1 : 0;
                default:
                    return numberOf[0];
            }
        }

        int wayLength() {
            return firstOpen == NONE ? NONE : layerOf[firstOpen];
        }

        /** The ORDER of the STATE behind k MOVES of THE WAY, which has as many. */
        int orderOnWay(int k) {
            int order = firstOpen;
            for (int left = wayLength(); left > k; left--) {
                order = parentOf[order];
            }
            return order;
        }

        /** Goes from all that are OPEN against the MOVES; once, as a SEARCH that is WHOLE comes to no more. */
        void measure() {
            if (measured) {
                return;
            }
            measured = true;
            int queued = 0;
            for (int order = 0; order < come; order++) {
                if (farness[order] == 0) {
                    queue[queued] = order;
                    queued++;
                }
            }
            for (int i = 0; i < queued && i < MOST_STATES; i++) {
                queued = queueThoseBefore(queue[i], queued);
            }
        }

        private int queueThoseBefore(int order, int queuedBefore) {
            int queued = queuedBefore;
            int road = roads.latestTo(order);
            for (int i = 0; i < come && road != NONE; i++) {
                int from = roads.from(road);
                if (farness[from] == NONE && queued < MOST_STATES) {
                    farness[from] = farness[order] + 1;
                    queue[queued] = from;
                    queued++;
                }
                road = roads.before(road);
            }
            return queued;
        }

        int numberOfTraps() {
            int n = 0;
            for (int order = 0; order < come; order++) {
                if (farness[order] == NONE) {
                    n++;
                }
            }
            return n;
        }

        /** The HINT at the STATE at which the CHEST stands. */
        int moveNearer() {
            int number = chest.number();
            int order = orderOf(number);
            if (order == NONE || farness[order] <= 0) {
                return NONE;
            }
            for (int move = 0; move < MOVES; move++) {
                int behind = orderOf(chest.numberBehind(move, number));
                if (behind != NONE && farness[behind] == farness[order] - 1) {
                    return move;
                }
            }
            return NONE;
        }
    }

    /** MARKS, and what the latest look at them met. */
    private static final class Marks {
        final boolean[] isMarked = new boolean[MOST_STATES];
        int lookedState;
        int lookedMove;
        int lookedBehind;

        Marks() {
            noteLook(NONE, NONE, NONE);
        }

        int put(int from, int n, boolean v) {
            int others = 0;
            for (int i = from; i < from + n && i < MOST_STATES; i++) {
                if (isMarked[i] != v) {
                    isMarked[i] = v;
                    others++;
                }
            }
            return others;
        }

        int number() {
            int n = 0;
            for (int i = 0; i < MOST_STATES; i++) {
                if (isMarked[i]) {
                    n++;
                }
            }
            return n;
        }

        boolean prove(Chest chest) {
            int stood = chest.number();
            noteLook(NONE, NONE, NONE);
            boolean proved = isMarked[stood];
            if (!proved) {
                noteLook(stood, UNMARKED, NONE);
            }
            for (int number = 0; number < chest.product && proved; number++) {
                proved = !isMarked[number] || staysAmongMarked(chest, number);
            }
            chest.standAt(stood);
            return proved;
        }

        private boolean staysAmongMarked(Chest chest, int number) {
            chest.standAt(number);
            if (chest.opens(false)) {
                noteLook(number, NONE, NONE);
                return false;
            }
            for (int move = 0; move < MOVES; move++) {
                int behind = chest.numberBehind(move, number);
                if (behind != NONE && !isMarked[behind]) {
                    noteLook(number, move, behind);
                    return false;
                }
            }
            return true;
        }

        private void noteLook(int state, int move, int behind) {
            lookedState = state;
            lookedMove = move;
            lookedBehind = behind;
        }
    }

    /** A CHEST as it is WRITTEN. */
    private static final class Written {
        private static final int OF_NOTHING = 255;
        private static final int MOST_BYTES = ROWS * (1 + 4 * PLACES) + 1 + MOST_CONDITIONS * (3 + MOST_TRUTHS) + 3;
        final int[] bytes = new int[MOST_BYTES];
        int length;

        void write(Chest chest) {
            length = 0;
            for (int r = 0; r < ROWS; r++) {
                writeRow(chest, r);
            }
            add(chest.conditions.number);
            for (int c = 0; c < chest.conditions.number; c++) {
                writeCondition(chest.conditions, c);
            }
            add(chest.jam);
            add(chest.sticks + 1);
            int all = 0;
            for (int i = 0; i < length; i++) {
                all ^= bytes[i];
            }
            add(all);
        }

        private void writeRow(Chest chest, int r) {
            int n = chest.places[r];
            add(n == NONE ? OF_NOTHING : n);
            for (int seat = r * PLACES; seat < r * PLACES + n; seat++) {
                if (chest.kind[seat] == EMPTY) {
                    add(0);
                } else {
                    add(chest.kind[seat] + 1);
                    add(chest.span[seat]);
                    add(chest.at[seat]);
                    add(chest.side[seat]);
                }
            }
        }

        private void writeCondition(Conditions conditions, int c) {
            int n = conditions.size[c];
            add(conditions.seat[c] + 1);
            add(conditions.looks[c]);
            add(n == NONE ? OF_NOTHING : n);
            for (int i = 0; i < n; i++) {
                add(conditions.truthAt(c, i));
            }
        }

        private void add(int b) {
            if (length < MOST_BYTES) {
                bytes[length] = b;
                length++;
            }
        }

        boolean isLike(Written that) {
            boolean like = length == that.length;
            for (int i = 0; i < length && like; i++) {
                like = bytes[i] == that.bytes[i];
            }
            return like;
        }

        long hash() {
            long h = 1469598103934665603L;
            for (int i = 0; i < length; i++) {
                h = (h ^ bytes[i]) * 1099511628211L;
            }
            return h;
        }
    }
}
