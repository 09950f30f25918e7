import java.util.Arrays;

/** States of a stream whose entries end; DOC.md's promises 1 to 20 say what each call answers. */
public final class StateEnds {
    public static final int BAD = -1, NO = -2, FULL = -3, NONE = -99999999;

    private static final int MOST_STATES = 6;
    private static final int LIST_FORM = 1;
    private static final int TICKS = 0;
    private static final int WATERMARK = 1;
    private static final int CLOCKS = 2;
    private static final int LONGEST_SPAN = 100000;
    private static final int MOST_TICKS_AT_ONCE = 100000;
    private static final int LAST_TIME = 1000000000;
    private static final int KEYS = 100;
    private static final int MEMBERS = 10;
    private static final int SLOTS_OF_STATE = KEYS * MEMBERS;
    private static final int PLACES = 200;
    private static final int FREE = -1;
    private static final int NOWHERE = -1;
    private static final int MOST_ROWS = 150;
    private static final int COLUMNS = 6;
    private static final int MARKS = 3;
    private static final int NOT_MADE = -1;

    private final States states;
    private final Places places;
    private final Rows rows;
    private final Marks marks;
    private int sweepFrom;

    public StateEnds() {
        states = new States();
        places = new Places();
        rows = new Rows();
        marks = new Marks();
        sweepFrom = 0;
    }

    public int state(int form, int clock, int span, int way) {
        if (!isZeroOrOne(form) || !isZeroOrOne(clock) || !isZeroOrOne(way) || !isSpan(span)) {
            return BAD;
        }
        if (states.made >= MOST_STATES) {
            return FULL;
        }
        return states.make(form, clock, span, way);
    }

    public int put(int state, int key, int member, int v) {
        if (!isNumberFor(state, key, member)) {
            return BAD;
        }
        int slot = slotOf(state, key, member);
        int there = placeOf(slot, 0, true);
        if (there == NOWHERE) {
            return bring(slot, v) ? 0 : FULL;
        }
        boolean wasShown = isShown(there);
        if (!wasShown) {
            tell(there);
        }
        write(there, v);
        return wasShown ? 1 : 0;
    }

    public int get(int state, int key, int member) {
        if (!isNumberFor(state, key, member)) {
            return BAD;
        }
        return read(placeOf(slotOf(state, key, member), 0, false));
    }

    public int remove(int state, int key, int member) {
        if (!isNumberFor(state, key, member)) {
            return BAD;
        }
        int there = placeOf(slotOf(state, key, member), 0, true);
        if (there == NOWHERE) {
            return NO;
        }
        boolean wasShown = isShown(there);
        places.vacate(there);
        return wasShown ? 1 : 0;
    }

    public int add(int state, int key, int v) {
        if (!isListFor(state, key)) {
            return BAD;
        }
        if (!bring(slotOf(state, key, 0), v)) {
            return FULL;
        }
        return howMany(state, key, true);
    }

    public int at(int state, int key, int i) {
        if (!isListFor(state, key)) {
            return BAD;
        }
        return read(placeOf(slotOf(state, key, 0), i, false));
    }

    public int clear(int state, int key) {
        if (!isStateAndKey(state, key)) {
            return BAD;
        }
        int shown = howMany(state, key, true);
        for (int p = 0; p < PLACES; p++) {
            if (places.isTaken(p) && isOfKey(p, state, key)) {
                places.vacate(p);
            }
        }
        return shown;
    }

    public int held(int state, int key, boolean over) {
        if (!isStateAndKey(state, key)) {
            return BAD;
        }
        return howMany(state, key, !over);
    }

    public int left(int state, int key, int member) {
        if (!isMemberOrIndexFor(state, key, member)) {
            return BAD;
        }
        int p = placeOf(slotFor(state, key, member), indexFor(state, member), false);
        return p == NOWHERE ? NONE : leftOf(p);
    }

    public int tick(int n) {
        if (n < 1 || n > MOST_TICKS_AT_ONCE) {
            return BAD;
        }
        int then = states.times[TICKS] + n;
        if (then > LAST_TIME) {
            return NO;
        }
        return moveClock(TICKS, then);
    }

    public int watermark(int t) {
        if (t < 0 || t > LAST_TIME) {
            return BAD;
        }
        if (states.times[WATERMARK] > t) {
            return NO;
        }
        return moveClock(WATERMARK, t);
    }

    public int sweep(int n) {
        if (n < 1 || n > PLACES) {
            return BAD;
        }
        int went = 0;
        for (int looked = 0; looked < n; looked++) {
            if (places.isTaken(sweepFrom) && !isShown(sweepFrom)) {
                tell(sweepFrom);
                places.vacate(sweepFrom);
                went++;
            }
            sweepFrom = (sweepFrom + 1) % PLACES;
        }
        return went;
    }

    public int setting(int state, int span, boolean all) {
        if (!states.has(state) || !isSpan(span)) {
            return BAD;
        }
        int was = states.spans[state];
        states.spans[state] = span;
        if (all) {
            spanShownAnew(state);
        }
        return was;
    }

    public int mark(int mark) {
        if (!isMark(mark)) {
            return BAD;
        }
        marks.begin(mark);
        for (int j = 0; j < places.taken; j++) {
            int p = places.line[j];
            if (isShown(p)) {
                marks.keep(mark, places.slots[p], places.numbers[p], leftOf(p));
            }
        }
        return marks.sizes[mark];
    }

    public int restore(int mark) {
        if (!isMark(mark)) {
            return BAD;
        }
        int size = marks.sizes[mark];
        if (size == NOT_MADE) {
            return NO;
        }
        places.vacateAll();
        for (int p = 0; p < size; p++) {
            int from = marks.indexOf(mark, p);
            places.take(p, marks.slots[from]);
            places.numbers[p] = marks.numbers[from];
            stamp(p, marks.lefts[from]);
        }
        sweepFrom = 0;
        return places.taken;
    }

    public int row(int i, int what) {
        if (i < 0 || i >= rows.kept || what < 0 || what >= COLUMNS) {
            return NONE;
        }
        return rows.cell(i, what);
    }

    public int place(int state, int key, int member) {
        if (!isMemberOrIndexFor(state, key, member)) {
            return BAD;
        }
        int p = placeOf(slotFor(state, key, member), indexFor(state, member), true);
        return p == NOWHERE ? NONE : p;
    }

    public int next(int state) {
        if (!states.has(state)) {
            return BAD;
        }
        int least = NONE;
        for (int j = 0; j < places.taken; j++) {
            int p = places.line[j];
            if (places.stateAt(p) == state && isShown(p)
                    && (least == NONE || places.ends[p] < least)) {
                least = places.ends[p];
            }
        }
        return least;
    }

    public int count(int what) {
        switch (what) {
            case 0: return states.made;
            case 1: return places.taken;
            case 2: return howManyShown();
            case 3: return rows.kept;
            case 4: return rows.ever;
            case 5: return states.times[TICKS];
            case 6: return states.times[WATERMARK];
            case 7: return sweepFrom;
            default: return BAD;
        }
    }

    private static boolean isZeroOrOne(int n) {
        return n == 0 || n == 1;
    }

    private static boolean isSpan(int span) {
        return span >= 1 && span <= LONGEST_SPAN;
    }

    private static boolean isMember(int member) {
        return member >= 0 && member < MEMBERS;
    }

    private static boolean isMark(int mark) {
        return mark >= 0 && mark < MARKS;
    }

    private boolean isStateAndKey(int state, int key) {
        return states.has(state) && key >= 0 && key < KEYS;
    }

    private boolean isNumberFor(int state, int key, int member) {
        return isStateAndKey(state, key) && !states.isList(state) && isMember(member);
    }

    private boolean isListFor(int state, int key) {
        return isStateAndKey(state, key) && states.isList(state);
    }

    /** left() and place() take a member in form 0, but in a list an index, which no number bounds. */
    private boolean isMemberOrIndexFor(int state, int key, int member) {
        return isStateAndKey(state, key) && member >= 0
                && (states.isList(state) || isMember(member));
    }

    private int slotFor(int state, int key, int member) {
        return slotOf(state, key, states.isList(state) ? 0 : member);
    }

    private int indexFor(int state, int member) {
        return states.isList(state) ? member : 0;
    }

    /** One number for state, key and member, so that the order of slots is the order of a mark. */
    private static int slotOf(int state, int key, int member) {
        return state * SLOTS_OF_STATE + key * MEMBERS + member;
    }

    private boolean isOfKey(int p, int state, int key) {
        return places.stateAt(p) == state && places.keyAt(p) == key;
    }

    private boolean isShown(int p) {
        return leftOf(p) > 0;
    }

    private int leftOf(int p) {
        return places.ends[p] - states.timeOf(places.stateAt(p));
    }

    /** The i-th entry of a slot: of those that are shown, or of all that are there. */
    private int placeOf(int slot, int i, boolean overToo) {
        int before = 0;
        for (int j = 0; j < places.taken; j++) {
            int p = places.line[j];
            if (places.slots[p] == slot && (overToo || isShown(p))) {
                if (before == i) {
                    return p;
                }
                before++;
            }
        }
        return NOWHERE;
    }

    private int howMany(int state, int key, boolean shown) {
        int many = 0;
        for (int j = 0; j < places.taken; j++) {
            int p = places.line[j];
            if (isOfKey(p, state, key) && isShown(p) == shown) {
                many++;
            }
        }
        return many;
    }

    private int howManyShown() {
        int many = 0;
        for (int j = 0; j < places.taken; j++) {
            if (isShown(places.line[j])) {
                many++;
            }
        }
        return many;
    }

    private boolean bring(int slot, int v) {
        int p = places.leastFree();
        if (p == NOWHERE) {
            return false;
        }
        places.take(p, slot);
        write(p, v);
        return true;
    }

    private void write(int p, int v) {
        places.numbers[p] = v;
        stamp(p, states.spans[places.stateAt(p)]);
    }

    private void stamp(int p, int span) {
        int now = states.timeOf(places.stateAt(p));
        places.stamps[p] = now;
        places.ends[p] = now + span;
    }

    private int read(int p) {
        if (p == NOWHERE) {
            return NONE;
        }
        int state = places.stateAt(p);
        if (states.isStampedByReads(state)) {
            stamp(p, states.spans[state]);
        }
        return places.numbers[p];
    }

    private void tell(int p) {
        int from = rows.begin();
        rows.cells[from] = places.stateAt(p);
        rows.cells[from + 1] = places.keyAt(p);
        rows.cells[from + 2] = places.memberAt(p);
        rows.cells[from + 3] = places.numbers[p];
        rows.cells[from + 4] = places.ends[p];
        rows.cells[from + 5] = states.times[TICKS];
    }

    private int moveClock(int clock, int then) {
        int shownBefore = howManyShown();
        states.times[clock] = then;
        return shownBefore - howManyShown();
    }

    /** What is over stays over: a longer span must not show again what has ended. */
    private void spanShownAnew(int state) {
        for (int j = 0; j < places.taken; j++) {
            int p = places.line[j];
            if (places.stateAt(p) == state && isShown(p)) {
                places.ends[p] = places.stamps[p] + states.spans[state];
            }
        }
    }

    /** The states and the two clocks. */
    private static final class States {
        final int[] forms = new int[MOST_STATES];
        final int[] clocks = new int[MOST_STATES];
        final int[] spans = new int[MOST_STATES];
        final int[] ways = new int[MOST_STATES];
        final int[] times = new int[CLOCKS];
        int made = 0;

        int make(int form, int clock, int span, int way) {
            int state = made;
            forms[state] = form;
            clocks[state] = clock;
            spans[state] = span;
            ways[state] = way;
            made++;
            return state;
        }

        boolean has(int state) {
            return state >= 0 && state < made;
        }

        boolean isList(int state) {
            return forms[state] == LIST_FORM;
        }

        boolean isStampedByReads(int state) {
            return ways[state] == 1;
        }

        int timeOf(int state) {
            return times[clocks[state]];
        }
    }

    /**
     * The entries in their places. The line holds the taken places by slot, those of one slot as
     * they came: so a list is read along it, and a mark is one walk, with nothing to sort.
     */
    private static final class Places {
        final int[] slots = new int[PLACES];
        final int[] numbers = new int[PLACES];
        final int[] stamps = new int[PLACES];
        final int[] ends = new int[PLACES];
        final int[] line = new int[PLACES];
        int taken = 0;

        Places() {
            Arrays.fill(slots, FREE);
        }

        boolean isTaken(int p) {
            return slots[p] != FREE;
        }

        int stateAt(int p) {
            return slots[p] / SLOTS_OF_STATE;
        }

        int keyAt(int p) {
            return slots[p] / MEMBERS % KEYS;
        }

        int memberAt(int p) {
            return slots[p] % MEMBERS;
        }

        int leastFree() {
            for (int p = 0; p < PLACES; p++) {
                if (!isTaken(p)) {
                    return p;
                }
            }
            return NOWHERE;
        }

        /** The place must be free: then the line has room for one more. */
        void take(int p, int slot) {
            slots[p] = slot;
            int to = taken;
            while (to > 0 && slots[line[to - 1]] > slot) {
                line[to] = line[to - 1];
                to--;
            }
            line[to] = p;
            taken++;
        }

        void vacate(int p) {
            slots[p] = FREE;
            int stay = 0;
            for (int j = 0; j < taken; j++) {
                if (line[j] != p) {
                    line[stay] = line[j];
                    stay++;
                }
            }
            taken = stay;
        }

        void vacateAll() {
            Arrays.fill(slots, FREE);
            taken = 0;
        }
    }

    /** The rows that are kept, in a ring, so that the first one goes without a shift. */
    private static final class Rows {
        final int[] cells = new int[MOST_ROWS * COLUMNS];
        int first = 0;
        int kept = 0;
        int ever = 0;

        /** Makes room for one more row: the index of its first cell. */
        int begin() {
            if (kept == MOST_ROWS) {
                first = (first + 1) % MOST_ROWS;
            } else {
                kept++;
            }
            ever++;
            return indexOf(kept - 1);
        }

        int cell(int i, int what) {
            return cells[indexOf(i) + what];
        }

        int indexOf(int i) {
            return (first + i) % MOST_ROWS * COLUMNS;
        }
    }

    /** What the marks keep: a stretch of PLACES cells for each of them. */
    private static final class Marks {
        final int[] slots = new int[MARKS * PLACES];
        final int[] numbers = new int[MARKS * PLACES];
        final int[] lefts = new int[MARKS * PLACES];
        final int[] sizes = new int[MARKS];

        Marks() {
            Arrays.fill(sizes, NOT_MADE);
        }

        void begin(int mark) {
            sizes[mark] = 0;
        }

        void keep(int mark, int slot, int number, int left) {
            int to = indexOf(mark, sizes[mark]);
            slots[to] = slot;
            numbers[to] = number;
            lefts[to] = left;
            sizes[mark]++;
        }

        int indexOf(int mark, int i) {
            return mark * PLACES + i;
        }
    }
}
