/** Each promise of the document: ordinary inputs, the edges that it names, wrong inputs. */
public final class PromisesTest {
    private static final int BAD = -1, NO = -2, FULL = -3, NONE = -99999999;
    private static final int LEAST = Integer.MIN_VALUE, MOST = Integer.MAX_VALUE;
    private static final int[] NO_KEYS = {-1, 100, LEAST, MOST};
    private static final int[] NO_MEMBERS = {-1, 10, LEAST, MOST};
    private static final Check CHECK = new Check("PromisesTest");

    public static void main(String[] args) {
        newObject();
        state();
        put();
        putWrong();
        get();
        getByWay();
        remove();
        add();
        at();
        clear();
        held();
        left();
        tick();
        watermark();
        clocksApart();
        sweep();
        setting();
        mark();
        restore();
        restoreKeepsTheRest();
        row();
        rowsOfPut();
        rowsKept();
        place();
        next();
        count();
        wrongCallsChangeNothing();
        CHECK.end();
    }

    private static void due(String call, long got, long want) {
        CHECK.due(call, got, want);
    }

    /** State 0: numbers, ticks, span 10, way 0. State 1: lists, ticks, span 8, way 0. */
    private static StateEnds numbersAndLists() {
        StateEnds x = new StateEnds();
        due("state 0", x.state(0, 0, 10, 0), 0);
        due("state 1", x.state(1, 0, 8, 0), 1);
        return x;
    }

    private static void fillPlaces(StateEnds x, int state) {
        for (int k = 0; k < 200; k++) {
            due("fill " + k, x.put(state, k % 100, k / 100, k), 0);
        }
    }

    private static void dueRow(StateEnds x, int i, int... cells) {
        for (int what = 0; what < cells.length; what++) {
            due("row(" + i + ", " + what + ")", x.row(i, what), cells[what]);
        }
    }

    private static void newObject() {
        CHECK.part("promise 1");
        StateEnds x = new StateEnds();
        for (int what = 0; what <= 7; what++) {
            due("count(" + what + ")", x.count(what), 0);
        }
        for (int m = 0; m < 3; m++) {
            due("restore(" + m + ")", x.restore(m), NO);
        }
        due("row", x.row(0, 0), NONE);
        due("put", x.put(0, 0, 0, 1), BAD);
        due("add", x.add(0, 0, 1), BAD);
        due("next", x.next(0), BAD);
        due("sweep", x.sweep(200), 0);
        StateEnds other = new StateEnds();
        due("state", x.state(0, 0, 1, 0), 0);
        due("objects share nothing", other.count(0), 0);
    }

    private static void state() {
        CHECK.part("promise 2");
        StateEnds x = new StateEnds();
        int[] notBits = {-1, 2, LEAST, MOST};
        for (int n : notBits) {
            due("form " + n, x.state(n, 0, 1, 0), BAD);
            due("clock " + n, x.state(0, n, 1, 0), BAD);
            due("way " + n, x.state(0, 0, 1, n), BAD);
        }
        int[] notSpans = {0, -1, 100001, LEAST, MOST};
        for (int n : notSpans) {
            due("span " + n, x.state(0, 0, n, 0), BAD);
        }
        due("none made", x.count(0), 0);
        for (int s = 0; s < 6; s++) {
            due("state " + s, x.state(s % 2, s / 2 % 2, s < 3 ? 1 : 100000, s / 3), s);
        }
        due("a seventh", x.state(0, 0, 1, 0), FULL);
        due("BAD before FULL: form", x.state(2, 0, 1, 0), BAD);
        due("BAD before FULL: span", x.state(0, 0, 0, 0), BAD);
        due("six", x.count(0), 6);
        due("the sixth is of form 1", x.add(5, 0, 1), 1);
        due("no seventh", x.next(6), BAD);
    }

    private static void put() {
        CHECK.part("promise 3");
        StateEnds x = numbersAndLists();
        due("new", x.put(0, 5, 5, 50), 0);
        due("another key", x.put(0, 0, 0, 51), 0);
        due("another member", x.put(0, 99, 9, 52), 0);
        due("tick", x.tick(9), 0);
        due("shown", x.put(0, 5, 5, -1), 1);
        due("it is stamped", x.left(0, 5, 5), 10);
        due("it keeps its place", x.place(0, 5, 5), 0);
        due("not told", x.count(4), 0);
        due("tick", x.tick(1), 2);
        due("over", x.put(0, 0, 0, 53), 0);
        due("over keeps its place", x.place(0, 0, 0), 1);
        due("told", x.count(4), 1);
        due("entries", x.count(1), 3);
        due("number", x.get(0, 5, 5), -1);
        due("number", x.get(0, 0, 0), 53);
        due("remove", x.remove(0, 5, 5), 1);
        due("put", x.put(0, 7, 7, 1), 0);
        due("least free place", x.place(0, 7, 7), 0);
        due("put", x.put(0, 7, 8, 1), 0);
        due("least free place", x.place(0, 7, 8), 3);
    }

    private static void putWrong() {
        CHECK.part("promise 3, wrong");
        StateEnds x = numbersAndLists();
        int[] noStates = {-1, 1, 2, 6, LEAST, MOST};
        for (int s : noStates) {
            due("state " + s, x.put(s, 0, 0, 1), BAD);
        }
        for (int k : NO_KEYS) {
            due("key " + k, x.put(0, k, 0, 1), BAD);
        }
        for (int m : NO_MEMBERS) {
            due("member " + m, x.put(0, 0, m, 1), BAD);
        }
        due("nothing came", x.count(1), 0);
        fillPlaces(x, 0);
        due("no place", x.put(0, 0, 2, 1), FULL);
        due("BAD before FULL", x.put(0, 0, 10, 1), BAD);
        due("one that is there", x.put(0, 0, 1, 7), 1);
        due("tick", x.tick(10), 200);
        due("what is over holds its place", x.put(0, 0, 2, 1), FULL);
        due("one that is over", x.put(0, 99, 1, 8), 0);
        due("its place", x.place(0, 99, 1), 199);
        due("sweep", x.sweep(1), 1);
        due("a place again", x.put(0, 0, 2, 1), 0);
        due("it", x.place(0, 0, 2), 0);
    }

    private static void get() {
        CHECK.part("promise 4");
        StateEnds x = numbersAndLists();
        due("none", x.get(0, 1, 1), NONE);
        int[] numbers = {0, 1, -1, -2, -3, NONE, LEAST, MOST};
        for (int m = 0; m < numbers.length; m++) {
            due("put", x.put(0, 1, m, numbers[m]), 0);
            due("get", x.get(0, 1, m), numbers[m]);
        }
        due("tick", x.tick(9), 0);
        due("the last tick", x.get(0, 1, 1), 1);
        due("way 0: not stamped", x.left(0, 1, 1), 1);
        due("tick", x.tick(1), 8);
        due("over, not swept", x.get(0, 1, 1), NONE);
        due("there yet", x.place(0, 1, 1), 1);
        due("form 1", x.get(1, 1, 0), BAD);
        due("state -1", x.get(-1, 1, 0), BAD);
        due("state 2", x.get(2, 1, 0), BAD);
        for (int k : NO_KEYS) {
            due("key " + k, x.get(0, k, 0), BAD);
        }
        for (int m : NO_MEMBERS) {
            due("member " + m, x.get(0, 0, m), BAD);
        }
    }

    private static void getByWay() {
        CHECK.part("promise 4, way 1");
        StateEnds x = new StateEnds();
        due("state", x.state(0, 0, 10, 1), 0);
        due("put", x.put(0, 1, 1, 5), 0);
        due("put", x.put(0, 1, 2, 6), 0);
        due("tick", x.tick(9), 0);
        due("get", x.get(0, 1, 1), 5);
        due("stamped", x.left(0, 1, 1), 10);
        due("the other one is not", x.left(0, 1, 2), 1);
        due("setting", x.setting(0, 4, false), 10);
        due("get", x.get(0, 1, 1), 5);
        due("stamped with the span of now", x.left(0, 1, 1), 4);
        due("tick", x.tick(3), 1);
        due("what is over", x.get(0, 1, 2), NONE);
        due("is not stamped", x.held(0, 1, true), 1);
        due("held, left, place, next do not read", x.left(0, 1, 1), 1);
        due("held", x.held(0, 1, false), 1);
        due("place", x.place(0, 1, 1), 0);
        due("next", x.next(0), 13);
        due("mark", x.mark(0), 1);
        due("tick", x.tick(1), 1);
    }

    private static void remove() {
        CHECK.part("promise 5");
        StateEnds x = numbersAndLists();
        due("none", x.remove(0, 1, 1), NO);
        due("put", x.put(0, 1, 1, 5), 0);
        due("put", x.put(0, 1, 2, 6), 0);
        due("shown", x.remove(0, 1, 1), 1);
        due("it is gone", x.get(0, 1, 1), NONE);
        due("again", x.remove(0, 1, 1), NO);
        due("tick", x.tick(10), 1);
        due("over", x.remove(0, 1, 2), 0);
        due("again", x.remove(0, 1, 2), NO);
        due("none is there", x.count(1), 0);
        due("none told", x.count(4), 0);
        due("form 1", x.remove(1, 1, 0), BAD);
        due("state -1", x.remove(-1, 1, 0), BAD);
        due("state 2", x.remove(2, 1, 0), BAD);
        for (int k : NO_KEYS) {
            due("key " + k, x.remove(0, k, 0), BAD);
        }
        for (int m : NO_MEMBERS) {
            due("member " + m, x.remove(0, 0, m), BAD);
        }
    }

    private static void add() {
        CHECK.part("promise 6");
        StateEnds x = numbersAndLists();
        due("first", x.add(1, 4, 7), 1);
        due("equal numbers", x.add(1, 4, 7), 2);
        due("another key", x.add(1, 5, 9), 1);
        due("tick", x.tick(7), 0);
        due("third", x.add(1, 4, 8), 3);
        due("tick", x.tick(1), 3);
        due("only the shown ones count", x.add(1, 4, 9), 2);
        due("what is over stays", x.count(1), 5);
        due("none told", x.count(4), 0);
        due("form 0", x.add(0, 4, 1), BAD);
        due("state -1", x.add(-1, 4, 1), BAD);
        due("state 2", x.add(2, 4, 1), BAD);
        for (int k : NO_KEYS) {
            due("key " + k, x.add(1, k, 1), BAD);
        }
        for (int n = 5; n < 200; n++) {
            due("add", x.add(1, 6, n), n - 4);
        }
        due("no place", x.add(1, 6, 1), FULL);
        due("no place, though some are over", x.add(1, 4, 1), FULL);
        due("BAD before FULL", x.add(1, 100, 1), BAD);
        due("sweep", x.sweep(200), 3);
        due("add", x.add(1, 4, 1), 3);
        due("into the least place", x.place(1, 4, 2), 0);
    }

    private static void at() {
        CHECK.part("promise 7");
        StateEnds x = new StateEnds();
        due("state 0", x.state(1, 0, 10, 1), 0);
        due("state 1", x.state(1, 0, 10, 0), 1);
        due("state 2", x.state(0, 0, 10, 0), 2);
        due("empty", x.at(0, 0, 0), NONE);
        for (int n = 0; n < 12; n++) {
            due("add", x.add(0, 0, -n), n + 1);
            due("add", x.add(1, 0, n), n + 1);
        }
        due("the twelfth", x.at(0, 0, 11), -11);
        due("not so many", x.at(0, 0, 12), NONE);
        due("not so many", x.at(0, 0, MOST), NONE);
        due("below 0", x.at(0, 0, -1), NONE);
        due("below 0", x.at(0, 0, LEAST), NONE);
        due("tick", x.tick(9), 0);
        due("read", x.at(0, 0, 3), -3);
        due("stamped", x.left(0, 0, 3), 10);
        due("the one before is not", x.left(0, 0, 2), 1);
        due("way 0", x.at(1, 0, 3), 3);
        due("not stamped", x.left(1, 0, 3), 1);
        due("tick", x.tick(1), 23);
        due("the first that is shown", x.at(0, 0, 0), -3);
        due("no second", x.at(0, 0, 1), NONE);
        due("none of it", x.at(1, 0, 0), NONE);
        due("form 0", x.at(2, 0, 0), BAD);
        due("state -1", x.at(-1, 0, 0), BAD);
        due("state 3", x.at(3, 0, 0), BAD);
        for (int k : NO_KEYS) {
            due("key " + k, x.at(0, k, 0), BAD);
        }
    }

    private static void clear() {
        CHECK.part("promise 8");
        StateEnds x = numbersAndLists();
        due("nothing there", x.clear(0, 1), 0);
        due("put", x.put(0, 1, 0, 1), 0);
        due("put", x.put(0, 2, 0, 2), 0);
        due("add", x.add(1, 1, 3), 1);
        due("tick", x.tick(5), 0);
        due("put", x.put(0, 1, 9, 4), 0);
        due("add", x.add(1, 1, 5), 2);
        due("tick", x.tick(5), 3);
        due("form 0: one is over", x.clear(0, 1), 1);
        due("the over one went too", x.held(0, 1, true), 0);
        due("the other key stays", x.held(0, 2, true), 1);
        due("the other state stays", x.held(1, 1, true), 1);
        due("form 1: one is over", x.clear(1, 1), 1);
        due("it is empty", x.place(1, 1, 0), NONE);
        due("entries", x.count(1), 1);
        due("none told", x.count(4), 0);
        due("state -1", x.clear(-1, 0), BAD);
        due("state 2", x.clear(2, 0), BAD);
        for (int k : NO_KEYS) {
            due("key " + k, x.clear(0, k), BAD);
        }
    }

    private static void held() {
        CHECK.part("promise 9");
        StateEnds x = numbersAndLists();
        due("nothing", x.held(0, 1, false), 0);
        due("nothing", x.held(0, 1, true), 0);
        for (int m = 0; m < 10; m++) {
            due("put", x.put(0, 1, m, m), 0);
            due("tick", x.tick(1), m == 9 ? 1 : 0);
        }
        due("put", x.put(0, 0, 9, 1), 0);
        due("put", x.put(0, 2, 0, 1), 0);
        due("shown", x.held(0, 1, false), 9);
        due("over", x.held(0, 1, true), 1);
        due("sweep", x.sweep(200), 1);
        due("over and there yet", x.held(0, 1, true), 0);
        due("add", x.add(1, 99, 1), 1);
        due("a list", x.held(1, 99, false), 1);
        due("tick", x.tick(8), 9);
        due("a list", x.held(1, 99, true), 1);
        due("state -1", x.held(-1, 0, false), BAD);
        due("state 2", x.held(2, 0, true), BAD);
        for (int k : NO_KEYS) {
            due("key " + k, x.held(0, k, false), BAD);
        }
    }

    private static void left() {
        CHECK.part("promise 10");
        StateEnds x = numbersAndLists();
        due("none", x.left(0, 1, 9), NONE);
        due("none", x.left(1, 1, 0), NONE);
        due("put", x.put(0, 1, 9, 1), 0);
        due("all", x.left(0, 1, 9), 10);
        due("tick", x.tick(9), 0);
        due("one", x.left(0, 1, 9), 1);
        for (int n = 0; n < 11; n++) {
            due("add", x.add(1, 1, n), n + 1);
        }
        due("tick", x.tick(1), 1);
        due("over", x.left(0, 1, 9), NONE);
        due("an index above 9", x.left(1, 1, 10), 7);
        due("not so many", x.left(1, 1, 11), NONE);
        due("not so many", x.left(1, 1, MOST), NONE);
        due("add", x.add(1, 1, 12), 12);
        due("tick", x.tick(7), 11);
        due("the shown ones are counted", x.left(1, 1, 0), 1);
        due("no second", x.left(1, 1, 1), NONE);
        due("list, below 0", x.left(1, 1, -1), BAD);
        due("list, below 0", x.left(1, 1, LEAST), BAD);
        for (int m : NO_MEMBERS) {
            due("member " + m, x.left(0, 1, m), BAD);
        }
        due("state -1", x.left(-1, 1, 0), BAD);
        due("state 2", x.left(2, 1, 0), BAD);
        for (int k : NO_KEYS) {
            due("key " + k, x.left(1, k, 0), BAD);
        }
    }

    private static void tick() {
        CHECK.part("promise 11");
        StateEnds x = numbersAndLists();
        int[] wrong = {0, -1, 100001, LEAST, MOST};
        for (int n : wrong) {
            due("tick " + n, x.tick(n), BAD);
        }
        due("no tick went by", x.count(5), 0);
        due("put", x.put(0, 0, 0, 1), 0);
        due("add", x.add(1, 0, 1), 1);
        due("tick", x.tick(7), 0);
        due("tick", x.tick(1), 1);
        due("tick", x.tick(1), 0);
        due("tick", x.tick(1), 1);
        due("ticks", x.count(5), 10);
        due("the most", x.tick(100000), 0);
        due("ticks", x.count(5), 100010);
        // More than 512 calls, so the document leaves these answers free: they pin what stands here.
        StateEnds old = new StateEnds();
        for (int n = 0; n < 10000; n++) {
            old.tick(100000);
        }
        due("the last tick", old.count(5), 1000000000);
        due("one more", old.tick(1), NO);
        due("BAD before NO", old.tick(0), BAD);
        due("it stays", old.count(5), 1000000000);
    }

    private static void watermark() {
        CHECK.part("promise 12");
        StateEnds x = new StateEnds();
        due("state", x.state(0, 1, 100000, 0), 0);
        int[] wrong = {-1, 1000000001, LEAST, MOST};
        for (int t : wrong) {
            due("watermark " + t, x.watermark(t), BAD);
        }
        due("put", x.put(0, 0, 0, 1), 0);
        due("0", x.watermark(0), 0);
        due("below the end", x.watermark(99999), 0);
        due("put", x.put(0, 0, 1, 1), 0);
        due("at the end", x.watermark(100000), 1);
        due("the same", x.watermark(100000), 0);
        due("below", x.watermark(99999), NO);
        due("0", x.watermark(0), NO);
        due("BAD before NO", x.watermark(-1), BAD);
        due("it stays", x.count(6), 100000);
        due("the last", x.watermark(1000000000), 1);
        due("the last again", x.watermark(1000000000), 0);
        due("beyond", x.watermark(1000000001), BAD);
        due("put", x.put(0, 0, 2, 1), 0);
        due("it ends beyond", x.next(0), 1000100000);
        due("it", x.left(0, 0, 2), 100000);
    }

    private static void clocksApart() {
        CHECK.part("promises 11 and 12, two clocks");
        StateEnds x = new StateEnds();
        due("state 0", x.state(0, 0, 5, 0), 0);
        due("state 1", x.state(0, 1, 5, 0), 1);
        due("put", x.put(0, 0, 0, 1), 0);
        due("put", x.put(1, 0, 0, 2), 0);
        due("tick", x.tick(4), 0);
        due("watermark", x.watermark(5), 1);
        due("ticks", x.get(0, 0, 0), 1);
        due("watermark", x.get(1, 0, 0), NONE);
        due("tick", x.tick(1), 1);
        due("ticks", x.get(0, 0, 0), NONE);
        due("sweep", x.sweep(2), 2);
        dueRow(x, 0, 0, 0, 0, 1, 5, 5);
        dueRow(x, 1, 1, 0, 0, 2, 5, 5);
    }

    private static void sweep() {
        CHECK.part("promise 13");
        StateEnds x = numbersAndLists();
        int[] wrong = {0, -1, 201, LEAST, MOST};
        for (int n : wrong) {
            due("sweep " + n, x.sweep(n), BAD);
        }
        due("it did not move", x.count(7), 0);
        fillPlaces(x, 0);
        due("nothing is over", x.sweep(200), 0);
        due("it comes round", x.count(7), 0);
        due("tick", x.tick(10), 200);
        due("put", x.put(0, 2, 0, 9), 0);
        due("a slice", x.sweep(3), 2);
        due("it ended", x.count(7), 3);
        due("a slice", x.sweep(195), 195);
        due("it ended", x.count(7), 198);
        due("put", x.put(0, 0, 5, 10), 0);
        due("into place 0", x.place(0, 0, 5), 0);
        due("tick", x.tick(10), 2);
        due("round the end", x.sweep(3), 3);
        due("it ended", x.count(7), 1);
        due("order of the rows", x.row(147, 3), 198);
        due("order of the rows", x.row(148, 3), 199);
        due("order of the rows", x.row(149, 3), 10);
        due("the last", x.sweep(200), 1);
        due("each is told once", x.count(4), 202);
        due("again", x.sweep(200), 0);
        due("each is told once", x.count(4), 202);
        due("all are gone", x.count(1), 0);
    }

    private static void setting() {
        CHECK.part("promise 14");
        StateEnds x = numbersAndLists();
        due("put", x.put(0, 0, 0, 1), 0);
        due("tick", x.tick(4), 0);
        due("put", x.put(0, 0, 1, 2), 0);
        due("add", x.add(1, 0, 3), 1);
        due("from now on", x.setting(0, 3, false), 10);
        due("entries stay", x.left(0, 0, 0), 6);
        due("entries stay", x.left(0, 0, 1), 10);
        due("put", x.put(0, 0, 2, 4), 0);
        due("the span of now", x.left(0, 0, 2), 3);
        due("with all", x.setting(0, 4, true), 3);
        due("over by it", x.get(0, 0, 0), NONE);
        due("over and there", x.held(0, 0, true), 1);
        due("stamp and span", x.left(0, 0, 1), 4);
        due("stamp and span", x.left(0, 0, 2), 4);
        due("another state stays", x.left(1, 0, 0), 8);
        due("with all", x.setting(0, 100000, true), 4);
        due("over stays over", x.get(0, 0, 0), NONE);
        due("stamp and span", x.left(0, 0, 1), 100000);
        due("sweep", x.sweep(200), 1);
        dueRow(x, 0, 0, 0, 0, 1, 4, 4);
        int[] notSpans = {0, -1, 100001, LEAST, MOST};
        for (int n : notSpans) {
            due("span " + n, x.setting(0, n, true), BAD);
        }
        due("state -1", x.setting(-1, 5, true), BAD);
        due("state 2", x.setting(2, 5, false), BAD);
        due("it stays", x.setting(0, 1, false), 100000);
        due("the other state's span stays", x.setting(1, 1, false), 8);
    }

    private static void mark() {
        CHECK.part("promise 15");
        StateEnds x = numbersAndLists();
        int[] wrong = {-1, 3, LEAST, MOST};
        for (int m : wrong) {
            due("mark " + m, x.mark(m), BAD);
        }
        due("nothing to keep", x.mark(0), 0);
        due("it was made", x.restore(0), 0);
        due("put", x.put(0, 0, 0, 1), 0);
        due("tick", x.tick(5), 0);
        due("add", x.add(1, 0, 2), 1);
        due("both", x.mark(2), 2);
        due("tick", x.tick(5), 1);
        due("only the shown one", x.mark(1), 1);
        due("nothing changed", x.count(1), 2);
        due("remove", x.clear(1, 0), 1);
        due("a mark keeps what it has", x.restore(2), 2);
        due("put", x.put(0, 5, 5, 3), 0);
        due("in place of one that was", x.mark(2), 3);
        due("restore", x.restore(1), 1);
        due("restore", x.restore(2), 3);
        due("restore", x.restore(0), 0);
    }

    private static void restore() {
        CHECK.part("promise 16");
        StateEnds x = new StateEnds();
        due("state 0", x.state(1, 1, 50, 1), 0);
        due("state 1", x.state(0, 0, 10, 0), 1);
        due("put", x.put(1, 9, 1, 11), 0);
        due("put", x.put(1, 2, 8, 12), 0);
        due("put", x.put(1, 2, 3, 13), 0);
        due("remove", x.remove(1, 9, 1), 1);
        due("add", x.add(0, 7, 21), 1);
        due("add", x.add(0, 7, 22), 2);
        due("add", x.add(0, 6, 23), 1);
        due("tick", x.tick(4), 0);
        due("watermark", x.watermark(20), 0);
        due("read", x.at(0, 7, 1), 22);
        due("mark", x.mark(1), 5);
        due("setting", x.setting(1, 99, false), 10);
        due("tick", x.tick(6), 2);
        due("sweep", x.sweep(3), 2);
        due("watermark", x.watermark(60), 2);
        due("put", x.put(1, 50, 5, 14), 0);
        due("restore", x.restore(1), 5);
        due("the next sweep begins at 0", x.count(7), 0);
        due("keys in order", x.place(0, 6, 0), 0);
        due("a list as it stands", x.place(0, 7, 0), 1);
        due("a list as it stands", x.place(0, 7, 1), 2);
        due("members in order", x.place(1, 2, 3), 3);
        due("members in order", x.place(1, 2, 8), 4);
        due("what came later is gone", x.place(1, 50, 5), NONE);
        due("what was left", x.left(0, 7, 0), 30);
        due("what was left", x.left(0, 7, 1), 50);
        due("what was left", x.left(1, 2, 3), 6);
        due("numbers", x.get(1, 2, 3), 13);
        due("numbers", x.get(1, 2, 8), 12);
        due("end", x.next(0), 90);
        due("end", x.next(1), 16);
        due("spans stay", x.setting(1, 20, true), 99);
        due("the clock of now is the stamp", x.left(1, 2, 3), 20);
        due("add", x.add(0, 7, 24), 3);
        due("behind the others", x.at(0, 7, 2), 24);
        due("into the least place", x.place(0, 7, 2), 5);
        due("restored again", x.restore(1), 5);
        due("with what was left", x.left(1, 2, 3), 6);
        int[] wrong = {-1, 3, LEAST, MOST};
        for (int m : wrong) {
            due("restore " + m, x.restore(m), BAD);
        }
        due("not made", x.restore(0), NO);
        due("not made", x.restore(2), NO);
    }

    private static void restoreKeepsTheRest() {
        CHECK.part("promise 16, what stays");
        StateEnds x = numbersAndLists();
        due("put", x.put(0, 0, 0, 1), 0);
        due("mark", x.mark(0), 1);
        due("state 2", x.state(0, 0, 5, 0), 2);
        due("put", x.put(2, 0, 0, 2), 0);
        due("tick", x.tick(5), 1);
        due("sweep", x.sweep(100), 1);
        due("put", x.put(2, 0, 0, 3), 0);
        due("tick", x.tick(5), 2);
        due("restore", x.restore(0), 1);
        due("states stay", x.count(0), 3);
        due("a state that the mark does not know is empty", x.place(2, 0, 0), NONE);
        due("entries", x.count(1), 1);
        due("none is told", x.count(4), 1);
        due("rows stay", x.row(0, 3), 2);
        due("ticks stay", x.count(5), 10);
        due("it is shown", x.get(0, 0, 0), 1);
        due("a new one", x.put(2, 0, 0, 4), 0);
        due("its place", x.place(2, 0, 0), 1);
    }

    private static void row() {
        CHECK.part("promise 17");
        StateEnds x = numbersAndLists();
        due("put", x.put(0, 42, 7, -5), 0);
        due("add", x.add(1, 99, MOST), 1);
        due("tick", x.tick(13), 2);
        due("not told before a sweep", x.row(0, 0), NONE);
        due("sweep", x.sweep(1), 1);
        due("tick", x.tick(1), 0);
        due("sweep", x.sweep(1), 1);
        dueRow(x, 0, 0, 42, 7, -5, 10, 13);
        dueRow(x, 1, 1, 99, 0, MOST, 8, 14);
        int[] noRows = {-1, 2, 150, LEAST, MOST};
        for (int i : noRows) {
            due("row " + i, x.row(i, 0), NONE);
        }
        int[] noWhats = {-1, 6, LEAST, MOST};
        for (int what : noWhats) {
            due("what " + what, x.row(0, what), NONE);
        }
    }

    private static void rowsOfPut() {
        CHECK.part("promise 17, rows of put()");
        StateEnds x = numbersAndLists();
        due("put", x.put(0, 3, 4, 7), 0);
        due("tick", x.tick(12), 1);
        due("written over what is over", x.put(0, 3, 4, 8), 0);
        dueRow(x, 0, 0, 3, 4, 7, 10, 12);
        due("written over what is shown", x.put(0, 3, 4, 9), 1);
        due("not told", x.count(4), 1);
        due("sweep", x.sweep(200), 0);
        due("told once", x.count(4), 1);
    }

    private static void rowsKept() {
        CHECK.part("promise 17, 150 rows");
        StateEnds x = new StateEnds();
        due("state", x.state(0, 0, 1, 0), 0);
        fillPlaces(x, 0);
        due("tick", x.tick(1), 200);
        due("sweep", x.sweep(150), 150);
        due("kept", x.count(3), 150);
        due("the first", x.row(0, 3), 0);
        due("the last", x.row(149, 3), 149);
        due("sweep", x.sweep(1), 1);
        due("kept", x.count(3), 150);
        due("ever", x.count(4), 151);
        due("the first went", x.row(0, 3), 1);
        due("the last", x.row(149, 3), 150);
        due("no more", x.row(150, 3), NONE);
        due("sweep", x.sweep(49), 49);
        for (int i = 0; i < 150; i += 7) {
            dueRow(x, i, 0, (i + 50) % 100, (i + 50) / 100, i + 50, 1);
        }
        due("kept", x.count(3), 150);
        due("ever", x.count(4), 200);
    }

    private static void place() {
        CHECK.part("promise 18");
        StateEnds x = numbersAndLists();
        due("none", x.place(0, 0, 0), NONE);
        due("none", x.place(1, 0, 0), NONE);
        due("put", x.put(0, 0, 0, 1), 0);
        for (int n = 0; n < 12; n++) {
            due("add", x.add(1, 0, n), n + 1);
        }
        due("remove", x.remove(0, 0, 0), 1);
        due("tick", x.tick(1), 0);
        due("add", x.add(1, 0, 12), 13);
        due("by the order in which they came", x.place(1, 0, 12), 0);
        due("an index above 9", x.place(1, 0, 11), 12);
        due("put", x.put(0, 0, 9, 1), 0);
        due("tick", x.tick(7), 12);
        due("over or not", x.place(1, 0, 0), 1);
        due("over or not", x.place(1, 0, 12), 0);
        due("tick", x.tick(3), 2);
        due("form 0, over", x.place(0, 0, 9), 13);
        due("not so many", x.place(1, 0, 13), NONE);
        due("not so many", x.place(1, 0, MOST), NONE);
        due("list, below 0", x.place(1, 0, -1), BAD);
        due("list, below 0", x.place(1, 0, LEAST), BAD);
        for (int m : NO_MEMBERS) {
            due("member " + m, x.place(0, 0, m), BAD);
        }
        due("state -1", x.place(-1, 0, 0), BAD);
        due("state 2", x.place(2, 0, 0), BAD);
        for (int k : NO_KEYS) {
            due("key " + k, x.place(0, k, 0), BAD);
        }
    }

    private static void next() {
        CHECK.part("promise 19");
        StateEnds x = numbersAndLists();
        due("none", x.next(0), NONE);
        due("put", x.put(0, 5, 5, 1), 0);
        due("tick", x.tick(2), 0);
        due("put", x.put(0, 1, 1, 1), 0);
        due("add", x.add(1, 1, 1), 1);
        due("the least", x.next(0), 10);
        due("of its state", x.next(1), 10);
        due("tick", x.tick(8), 2);
        due("of the shown ones", x.next(0), 12);
        due("none is", x.next(1), NONE);
        due("setting", x.setting(0, 3, false), 10);
        due("put", x.put(0, 9, 9, 1), 0);
        due("put", x.put(0, 1, 1, 1), 1);
        due("equal ones", x.next(0), 13);
        due("state -1", x.next(-1), BAD);
        due("state 2", x.next(2), BAD);
        due("state", x.next(LEAST), BAD);
        due("state", x.next(MOST), BAD);
    }

    private static void count() {
        CHECK.part("promise 20");
        StateEnds x = numbersAndLists();
        due("put", x.put(0, 0, 0, 1), 0);
        due("add", x.add(1, 0, 1), 1);
        due("add", x.add(1, 0, 2), 2);
        due("tick", x.tick(9), 2);
        due("watermark", x.watermark(77), 0);
        due("sweep", x.sweep(2), 1);
        int[] dues = {2, 2, 1, 1, 1, 9, 77, 2};
        for (int what = 0; what < dues.length; what++) {
            due("count(" + what + ")", x.count(what), dues[what]);
        }
        int[] noWhats = {-1, 8, LEAST, MOST};
        for (int what : noWhats) {
            due("count(" + what + ")", x.count(what), BAD);
        }
    }

    private static void wrongCallsChangeNothing() {
        CHECK.part("wrong calls change nothing");
        StateEnds x = numbersAndLists();
        due("put", x.put(0, 0, 0, 1), 0);
        due("add", x.add(1, 0, 2), 1);
        due("watermark", x.watermark(3), 0);
        due("tick", x.tick(8), 1);
        due("mark", x.mark(0), 1);
        x.put(0, 0, 10, 9);
        x.put(1, 0, 0, 9);
        x.add(0, 0, 9);
        x.add(1, 100, 9);
        x.remove(0, 0, 1);
        x.clear(0, 100);
        x.tick(0);
        x.watermark(2);
        x.sweep(201);
        x.setting(0, 0, true);
        x.mark(3);
        x.restore(1);
        x.restore(-1);
        int[] dues = {2, 2, 1, 0, 0, 8, 3, 0};
        for (int what = 0; what < dues.length; what++) {
            due("count(" + what + ")", x.count(what), dues[what]);
        }
        due("left", x.left(0, 0, 0), 2);
        due("get", x.get(0, 0, 0), 1);
        due("place", x.place(1, 0, 0), 1);
        due("the span", x.setting(0, 5, false), 10);
        due("the mark", x.restore(0), 1);
    }
}
