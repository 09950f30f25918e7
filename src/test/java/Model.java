import java.util.ArrayList;
import java.util.Comparator;
import java.util.List;

/** The document once more, in other means: lists and sorts of the library, and no thought of room or speed. */
final class Model {
    private static final int BAD = -1, NO = -2, FULL = -3, NONE = -99999999;

    private record State(int form, int clock, int way) { }

    private static final class Entry {
        int state, key, member, number, stamp, end, place;
        long came;

        boolean is(int s, int k) {
            return state == s && key == k;
        }
    }

    private record Kept(int state, int key, int member, int number, int left) { }

    private final List<State> states = new ArrayList<>();
    private final List<Integer> spans = new ArrayList<>();
    private final List<Entry> entries = new ArrayList<>();
    private final List<int[]> rows = new ArrayList<>();
    private final List<List<Kept>> marks = new ArrayList<>();
    private final int[] now = new int[2];
    private long comings = 0;
    private int from = 0;

    Model() {
        for (int m = 0; m < 3; m++) {
            marks.add(null);
        }
    }

    int state(int form, int clock, int span, int way) {
        if (form < 0 || form > 1 || clock < 0 || clock > 1 || way < 0 || way > 1 || span < 1 || span > 100000) {
            return BAD;
        }
        if (states.size() == 6) {
            return FULL;
        }
        states.add(new State(form, clock, way));
        spans.add(span);
        return states.size() - 1;
    }

    int put(int state, int key, int member, int v) {
        if (!known(state, key) || form(state) != 0 || member < 0 || member > 9) {
            return BAD;
        }
        List<Entry> there = those(state, key, member, true);
        if (there.isEmpty()) {
            return come(state, key, member, v) ? 0 : FULL;
        }
        Entry e = there.get(0);
        boolean was = shown(e);
        if (!was) {
            tell(e);
        }
        e.number = v;
        stamp(e, spans.get(state));
        return was ? 1 : 0;
    }

    int get(int state, int key, int member) {
        if (!known(state, key) || form(state) != 0 || member < 0 || member > 9) {
            return BAD;
        }
        return read(those(state, key, member, false), 0);
    }

    int remove(int state, int key, int member) {
        if (!known(state, key) || form(state) != 0 || member < 0 || member > 9) {
            return BAD;
        }
        List<Entry> there = those(state, key, member, true);
        if (there.isEmpty()) {
            return NO;
        }
        entries.remove(there.get(0));
        return shown(there.get(0)) ? 1 : 0;
    }

    int add(int state, int key, int v) {
        if (!known(state, key) || form(state) != 1) {
            return BAD;
        }
        return come(state, key, 0, v) ? those(state, key, 0, false).size() : FULL;
    }

    int at(int state, int key, int i) {
        if (!known(state, key) || form(state) != 1) {
            return BAD;
        }
        return read(those(state, key, 0, false), i);
    }

    int clear(int state, int key) {
        if (!known(state, key)) {
            return BAD;
        }
        int was = held(state, key, false);
        entries.removeIf(e -> e.is(state, key));
        return was;
    }

    int held(int state, int key, boolean over) {
        if (!known(state, key)) {
            return BAD;
        }
        return (int) entries.stream().filter(e -> e.is(state, key) && shown(e) != over).count();
    }

    int left(int state, int key, int member) {
        if (!known(state, key) || member < 0 || member > 9 && form(state) == 0) {
            return BAD;
        }
        Entry e = pick(state, key, member, false);
        return e == null ? NONE : e.end - clock(e);
    }

    int tick(int n) {
        if (n < 1 || n > 100000) {
            return BAD;
        }
        return now[0] + n > 1000000000 ? NO : move(0, now[0] + n);
    }

    int watermark(int t) {
        if (t < 0 || t > 1000000000) {
            return BAD;
        }
        return now[1] > t ? NO : move(1, t);
    }

    int sweep(int n) {
        if (n < 1 || n > 200) {
            return BAD;
        }
        int went = 0;
        for (int k = 0; k < n; k++) {
            int p = (from + k) % 200;
            Entry e = entries.stream().filter(f -> f.place == p).findFirst().orElse(null);
            if (e != null && !shown(e)) {
                tell(e);
                entries.remove(e);
                went++;
            }
        }
        from = (from + n) % 200;
        return went;
    }

    int setting(int state, int span, boolean all) {
        if (state < 0 || state >= states.size() || span < 1 || span > 100000) {
            return BAD;
        }
        if (all) {
            entries.stream().filter(e -> e.state == state && shown(e)).forEach(e -> e.end = e.stamp + span);
        }
        return spans.set(state, span);
    }

    int mark(int mark) {
        if (mark < 0 || mark > 2) {
            return BAD;
        }
        List<Kept> kept = new ArrayList<>();
        entries.stream().filter(this::shown)
                .sorted(Comparator.<Entry>comparingInt(e -> e.state).thenComparingInt(e -> e.key)
                        .thenComparingInt(e -> e.member).thenComparingLong(e -> e.came))
                .forEach(e -> kept.add(new Kept(e.state, e.key, e.member, e.number, e.end - clock(e))));
        marks.set(mark, kept);
        return kept.size();
    }

    int restore(int mark) {
        if (mark < 0 || mark > 2) {
            return BAD;
        }
        if (marks.get(mark) == null) {
            return NO;
        }
        entries.clear();
        for (Kept k : marks.get(mark)) {
            come(k.state, k.key, k.member, k.number);
            stamp(entries.get(entries.size() - 1), k.left);
        }
        from = 0;
        return entries.size();
    }

    int row(int i, int what) {
        List<int[]> kept = rows.subList(Math.max(0, rows.size() - 150), rows.size());
        return i < 0 || i >= kept.size() || what < 0 || what > 5 ? NONE : kept.get(i)[what];
    }

    int place(int state, int key, int member) {
        if (!known(state, key) || member < 0 || member > 9 && form(state) == 0) {
            return BAD;
        }
        Entry e = pick(state, key, member, true);
        return e == null ? NONE : e.place;
    }

    int next(int state) {
        if (state < 0 || state >= states.size()) {
            return BAD;
        }
        return entries.stream().filter(e -> e.state == state && shown(e)).mapToInt(e -> e.end).min().orElse(NONE);
    }

    int count(int what) {
        int[] counts = {states.size(), entries.size(), shownOnes(), Math.min(150, rows.size()), rows.size(),
            now[0], now[1], from};
        return what < 0 || what > 7 ? BAD : counts[what];
    }

    private boolean known(int state, int key) {
        return state >= 0 && state < states.size() && key >= 0 && key <= 99;
    }

    private int form(int state) {
        return states.get(state).form;
    }

    private int clock(Entry e) {
        return now[states.get(e.state).clock];
    }

    private boolean shown(Entry e) {
        return clock(e) < e.end;
    }

    private int shownOnes() {
        return (int) entries.stream().filter(this::shown).count();
    }

    private List<Entry> those(int state, int key, int member, boolean overToo) {
        List<Entry> found = new ArrayList<>(entries);
        found.removeIf(e -> !e.is(state, key) || e.member != member || !overToo && !shown(e));
        found.sort(Comparator.comparingLong(e -> e.came));
        return found;
    }

    private Entry pick(int state, int key, int member, boolean overToo) {
        boolean list = form(state) == 1;
        List<Entry> found = those(state, key, list ? 0 : member, overToo);
        int i = list ? member : 0;
        return i < found.size() ? found.get(i) : null;
    }

    private int read(List<Entry> found, int i) {
        if (i < 0 || i >= found.size()) {
            return NONE;
        }
        Entry e = found.get(i);
        if (states.get(e.state).way == 1) {
            stamp(e, spans.get(e.state));
        }
        return e.number;
    }

    private void stamp(Entry e, int span) {
        e.stamp = clock(e);
        e.end = e.stamp + span;
    }

    private boolean come(int state, int key, int member, int v) {
        boolean[] taken = new boolean[200];
        entries.forEach(e -> taken[e.place] = true);
        int p = 0;
        while (p < 200 && taken[p]) {
            p++;
        }
        if (p == 200) {
            return false;
        }
        Entry e = new Entry();
        e.state = state;
        e.key = key;
        e.member = member;
        e.number = v;
        e.place = p;
        e.came = comings++;
        stamp(e, spans.get(state));
        entries.add(e);
        return true;
    }

    private void tell(Entry e) {
        rows.add(new int[] {e.state, e.key, e.member, e.number, e.end, now[0]});
    }

    private int move(int clock, int then) {
        int before = shownOnes();
        now[clock] = then;
        return before - shownOnes();
    }
}
