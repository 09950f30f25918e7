import java.util.Arrays;

/** One object that is asked call by call. The document promises nothing beyond 512 calls, so a run keeps to them. */
final class Asked {
    static final int BAD = -1, NO = -2, FULL = -3, NONE = -99999999;
    static final int LEAST = Integer.MIN_VALUE, MOST = Integer.MAX_VALUE;
    static final int[] NO_KEYS = {-1, 100, LEAST, MOST};
    static final int[] NO_MEMBERS = {-1, 10, LEAST, MOST};
    static final int[] NO_SPANS = {0, -1, 100001, LEAST, MOST};
    static final int[] NO_MARKS = {-1, 3, LEAST, MOST};
    private static final int MOST_CALLS = 512;

    private final StateEnds x = new StateEnds();
    private final Check check;
    private int calls = 0;
    private String call = "";
    private int got = 0;

    Asked(Check check) {
        this.check = check;
    }

    /** State 0 has numbers, state 1 lists; both go by ticks. */
    static Asked ofTwoForms(Check check, int span, int way) {
        Asked x = new Asked(check);
        x.state(0, 0, span, way).is(0);
        x.state(1, 0, span, way).is(1);
        return x;
    }

    /** The last call's answer is the one that is due. */
    Asked is(int want) {
        check.due(call, got, want);
        return this;
    }

    Asked state(int form, int clock, int span, int way) {
        return asked(x.state(form, clock, span, way), "state", form, clock, span, way);
    }

    Asked put(int state, int key, int member, int v) {
        return asked(x.put(state, key, member, v), "put", state, key, member, v);
    }

    Asked get(int state, int key, int member) {
        return asked(x.get(state, key, member), "get", state, key, member);
    }

    Asked remove(int state, int key, int member) {
        return asked(x.remove(state, key, member), "remove", state, key, member);
    }

    Asked add(int state, int key, int v) {
        return asked(x.add(state, key, v), "add", state, key, v);
    }

    Asked at(int state, int key, int i) {
        return asked(x.at(state, key, i), "at", state, key, i);
    }

    Asked clear(int state, int key) {
        return asked(x.clear(state, key), "clear", state, key);
    }

    Asked shown(int state, int key) {
        return asked(x.held(state, key, false), "held, shown", state, key);
    }

    Asked over(int state, int key) {
        return asked(x.held(state, key, true), "held, over", state, key);
    }

    Asked left(int state, int key, int member) {
        return asked(x.left(state, key, member), "left", state, key, member);
    }

    Asked tick(int n) {
        return asked(x.tick(n), "tick", n);
    }

    Asked watermark(int t) {
        return asked(x.watermark(t), "watermark", t);
    }

    Asked sweep(int n) {
        return asked(x.sweep(n), "sweep", n);
    }

    Asked setting(int state, int span) {
        return asked(x.setting(state, span, false), "setting, from now on", state, span);
    }

    Asked settingAll(int state, int span) {
        return asked(x.setting(state, span, true), "setting, with all", state, span);
    }

    Asked mark(int mark) {
        return asked(x.mark(mark), "mark", mark);
    }

    Asked restore(int mark) {
        return asked(x.restore(mark), "restore", mark);
    }

    Asked row(int i, int what) {
        return asked(x.row(i, what), "row", i, what);
    }

    Asked place(int state, int key, int member) {
        return asked(x.place(state, key, member), "place", state, key, member);
    }

    Asked next(int state) {
        return asked(x.next(state), "next", state);
    }

    Asked count(int what) {
        return asked(x.count(what), "count", what);
    }

    /** A whole row: state, key, member, number, end, tick. */
    Asked rowIs(int i, int... cells) {
        for (int what = 0; what < cells.length; what++) {
            row(i, what).is(cells[what]);
        }
        return this;
    }

    /** Takes all 200 places, with keys 0 .. 99, members 0 and 1, in a mark's order; the number is the place. */
    Asked fill(int state) {
        for (int n = 0; n < 200; n++) {
            put(state, n / 2, n % 2, n).is(0);
        }
        return this;
    }

    private Asked asked(int answer, String name, int... with) {
        calls++;
        call = "call " + calls + ", " + name + Arrays.toString(with);
        got = answer;
        check.holds(call + " is one of the first 512", calls <= MOST_CALLS);
        return this;
    }
}
