/** Promises 1 to 20: a test for each sentence of theirs; the part's name is the promise and the sentence. */
public final class PromisesTest {
    private static final int BAD = Asked.BAD, NO = Asked.NO, FULL = Asked.FULL, NONE = Asked.NONE;
    private static final int LEAST = Asked.LEAST, MOST = Asked.MOST;
    /** With two states, 0 of form 0 and 1 of form 1, these are none: not made yet, beyond the six, below 0. */
    private static final int[] NO_STATES = {-1, 2, 5, 6, 7, LEAST, MOST};
    private static final Check CHECK = new Check("PromisesTest");

    public static void main(String[] args) {
        newObject();
        state();
        put();
        get();
        remove();
        add();
        at();
        clear();
        held();
        left();
        tick();
        watermark();
        sweep();
        setting();
        mark();
        restore();
        row();
        place();
        next();
        count();
        CHECK.end();
    }

    private static Asked of(int span, int way) {
        return Asked.ofTwoForms(CHECK, span, way);
    }

    private static void newObject() {
        CHECK.part("1: No STATES");
        Asked x = new Asked(CHECK);
        x.count(0).is(0);
        for (int s = -1; s <= 6; s++) {
            x.put(s, 0, 0, 1).is(BAD);
            x.get(s, 0, 0).is(BAD);
            x.remove(s, 0, 0).is(BAD);
            x.add(s, 0, 1).is(BAD);
            x.at(s, 0, 0).is(BAD);
            x.clear(s, 0).is(BAD);
            x.shown(s, 0).is(BAD);
            x.over(s, 0).is(BAD);
            x.left(s, 0, 0).is(BAD);
            x.setting(s, 1).is(BAD);
            x.place(s, 0, 0).is(BAD);
            x.next(s).is(BAD);
        }
        x.state(0, 0, 1, 0).is(0);

        CHECK.part("1: No ENTRIES");
        x = of(1, 0);
        x.count(1).is(0);
        x.count(2).is(0);
        x.mark(0).is(0);
        x.tick(1).is(0);
        x.sweep(200).is(0);
        x.shown(0, 0).is(0);
        x.over(1, 0).is(0);

        CHECK.part("1: No ROWS");
        x = new Asked(CHECK);
        x.count(3).is(0);
        x.count(4).is(0);
        x.row(0, 0).is(NONE);
        x.row(149, 5).is(NONE);

        CHECK.part("1: No MARKS");
        for (int m = 0; m < 3; m++) {
            x.restore(m).is(NO);
        }

        CHECK.part("1: A new object (beside another one)");
        Asked other = of(5, 0);
        other.put(0, 0, 0, 1).is(0);
        other.mark(0).is(1);
        other.tick(5).is(1);
        other.sweep(3).is(1);
        x = new Asked(CHECK);
        for (int what = 0; what <= 7; what++) {
            x.count(what).is(0);
        }
        x.restore(0).is(NO);
    }

    private static void state() {
        CHECK.part("2: A state: its number");
        Asked x = new Asked(CHECK);
        x.state(0, 0, 1, 0).is(0);
        x.state(1, 1, 100000, 1).is(1);
        x.state(2, 0, 1, 0).is(BAD);
        x.state(0, 1, 7, 1).is(2);
        x.count(0).is(3);
        x.add(1, 0, 5).is(1);
        x.put(2, 0, 0, 5).is(0);
        x.watermark(6).is(0);
        x.get(2, 0, 0).is(5);
        x.left(2, 0, 0).is(7);
        x.left(1, 0, 0).is(99994);
        x.at(1, 0, 0).is(5);
        x.left(1, 0, 0).is(100000);

        CHECK.part("2: BAD: form, clock, way are not 0, 1");
        x = new Asked(CHECK);
        int[] wrong = {-1, 2, LEAST, MOST};
        for (int n : wrong) {
            x.state(n, 0, 1, 0).is(BAD);
            x.state(0, n, 1, 0).is(BAD);
            x.state(0, 0, 1, n).is(BAD);
        }
        x.count(0).is(0);

        CHECK.part("2: BAD: span");
        for (int span : Asked.NO_SPANS) {
            x.state(0, 0, span, 0).is(BAD);
            x.state(1, 1, span, 1).is(BAD);
        }
        x.count(0).is(0);

        CHECK.part("2: FULL");
        for (int s = 0; s < 6; s++) {
            x.state(s % 2, s / 2 % 2, 1 + s, s / 3).is(s);
        }
        x.state(0, 0, 1, 0).is(FULL);
        x.state(1, 1, 100000, 1).is(FULL);
        x.count(0).is(6);
        x.add(5, 0, 1).is(1);
    }

    private static void put() {
        CHECK.part("3: A number is written, in place of the one that is there (which keeps its PLACE)");
        Asked x = of(10, 0);
        x.put(0, 0, 0, 1).is(0);
        x.put(0, 5, 5, 2).is(0);
        x.put(0, 9, 9, 3).is(0);
        x.remove(0, 0, 0).is(1);
        x.put(0, 5, 5, -2).is(1);
        x.place(0, 5, 5).is(1);
        x.get(0, 5, 5).is(-2);
        x.tick(10).is(2);
        x.put(0, 9, 9, -3).is(0);
        x.place(0, 9, 9).is(2);
        x.get(0, 9, 9).is(-3);
        x.count(1).is(2);

        CHECK.part("3: 1 if that was SHOWN, else 0");
        x = of(10, 0);
        x.put(0, 0, 0, 1).is(0);
        x.put(0, 0, 0, 1).is(1);
        x.put(0, 0, 1, 1).is(0);
        x.tick(9).is(0);
        x.put(0, 0, 0, 1).is(1);
        x.tick(1).is(1);
        x.put(0, 0, 1, 1).is(0);
        x.put(0, 0, 1, 1).is(1);
        x.remove(0, 0, 1).is(1);
        x.put(0, 0, 1, 1).is(0);
        x.tick(10).is(2);
        x.put(0, 0, 0, 1).is(0);
        x.tick(100000).is(1);
        x.put(0, 0, 0, 1).is(0);

        CHECK.part("3: BAD: no such state of form 0, KEY, MEMBER");
        x = of(10, 0);
        x.put(1, 0, 0, 1).is(BAD);
        for (int s : NO_STATES) {
            x.put(s, 0, 0, 1).is(BAD);
        }
        for (int k : Asked.NO_KEYS) {
            x.put(0, k, 0, 1).is(BAD);
        }
        for (int m : Asked.NO_MEMBERS) {
            x.put(0, 0, m, 1).is(BAD);
        }
        x.count(1).is(0);
        x.put(0, 99, 9, 1).is(0);
        x.put(0, 0, 0, 1).is(0);

        CHECK.part("3: FULL: there is none, and no free PLACE");
        x = of(10, 0);
        x.fill(0);
        x.put(0, 0, 2, 1).is(FULL);
        x.put(0, 99, 1, 777).is(1);
        x.remove(0, 99, 1).is(1);
        x.put(0, 0, 2, 1).is(0);
        x.place(0, 0, 2).is(199);
        x.put(0, 99, 1, 1).is(FULL);
        x.tick(10).is(200);
        x.put(0, 99, 1, 1).is(FULL);
        x.put(0, 7, 1, 8).is(0);
        x.place(0, 7, 1).is(15);
        x.sweep(1).is(1);
        x.put(0, 99, 1, 1).is(0);
        x.place(0, 99, 1).is(0);
        x.put(0, 0, 0, 1).is(FULL);
    }

    private static void get() {
        CHECK.part("4: what is SHOWN, else NONE");
        Asked x = of(10, 0);
        x.get(0, 1, 1).is(NONE);
        x.put(0, 1, 1, 5).is(0);
        x.get(0, 1, 1).is(5);
        x.get(0, 1, 2).is(NONE);
        x.get(0, 2, 1).is(NONE);
        x.tick(9).is(0);
        x.get(0, 1, 1).is(5);
        x.tick(1).is(1);
        x.get(0, 1, 1).is(NONE);
        x.place(0, 1, 1).is(0);
        x.sweep(1).is(1);
        x.get(0, 1, 1).is(NONE);
        x.put(0, 1, 1, 6).is(0);
        x.remove(0, 1, 1).is(1);
        x.get(0, 1, 1).is(NONE);

        CHECK.part("4: BAD (-1): no such state of form 0, KEY, MEMBER");
        x.add(1, 0, 3).is(1);
        x.get(1, 0, 0).is(BAD);
        for (int s : NO_STATES) {
            x.get(s, 0, 0).is(BAD);
        }
        for (int k : Asked.NO_KEYS) {
            x.get(0, k, 0).is(BAD);
        }
        for (int m : Asked.NO_MEMBERS) {
            x.get(0, 0, m).is(BAD);
        }

        CHECK.part("4: (It may be these numbers, too.)");
        int[] numbers = {BAD, NO, FULL, NONE, 0, 1, LEAST, MOST};
        for (int m = 0; m < numbers.length; m++) {
            x.put(0, 1, m, numbers[m]).is(0);
            x.get(0, 1, m).is(numbers[m]);
            x.put(0, 1, m, numbers[m]).is(1);
            x.remove(0, 1, m).is(1);
        }
    }

    private static void remove() {
        CHECK.part("5: It is removed, whether it is SHOWN or over: 1 if it was SHOWN, else 0");
        Asked x = of(10, 0);
        x.put(0, 1, 1, 5).is(0);
        x.put(0, 1, 2, 6).is(0);
        x.put(0, 1, 3, 7).is(0);
        x.tick(9).is(0);
        x.remove(0, 1, 1).is(1);
        x.place(0, 1, 1).is(NONE);
        x.get(0, 1, 2).is(6);
        x.tick(1).is(2);
        x.remove(0, 1, 2).is(0);
        x.place(0, 1, 2).is(NONE);
        x.place(0, 1, 3).is(2);
        x.tick(1).is(0);
        x.remove(0, 1, 3).is(0);
        x.count(1).is(0);
        x.count(4).is(0);

        CHECK.part("5: BAD, likewise");
        x = of(10, 0);
        x.add(1, 0, 3).is(1);
        x.remove(1, 0, 0).is(BAD);
        for (int s : NO_STATES) {
            x.remove(s, 0, 0).is(BAD);
        }
        for (int k : Asked.NO_KEYS) {
            x.remove(0, k, 0).is(BAD);
        }
        for (int m : Asked.NO_MEMBERS) {
            x.remove(0, 0, m).is(BAD);
        }
        x.count(1).is(1);

        CHECK.part("5: NO: there is none");
        x = of(10, 0);
        x.remove(0, 0, 0).is(NO);
        x.put(0, 0, 0, 1).is(0);
        x.remove(0, 0, 1).is(NO);
        x.remove(0, 1, 0).is(NO);
        x.remove(0, 0, 0).is(1);
        x.remove(0, 0, 0).is(NO);
        x.put(0, 0, 0, 1).is(0);
        x.tick(10).is(1);
        x.sweep(1).is(1);
        x.remove(0, 0, 0).is(NO);
    }

    private static void add() {
        CHECK.part("6: A number comes to the end of a LIST: how many of it are SHOWN then");
        Asked x = of(10, 0);
        x.add(1, 4, NONE).is(1);
        x.add(1, 4, 7).is(2);
        x.add(1, 4, 7).is(3);
        x.add(1, 5, 9).is(1);
        x.put(0, 4, 0, 1).is(0);
        x.at(1, 4, 0).is(NONE);
        x.at(1, 4, 1).is(7);
        x.tick(9).is(0);
        x.add(1, 4, 8).is(4);
        x.tick(1).is(5);
        x.add(1, 4, 9).is(2);
        x.at(1, 4, 0).is(8);
        x.at(1, 4, 1).is(9);
        x.place(1, 4, 4).is(6);
        x.clear(1, 4).is(2);
        x.add(1, 4, 1).is(1);

        CHECK.part("6: BAD: no such state of form 1, KEY");
        x = of(10, 0);
        x.add(0, 4, 1).is(BAD);
        for (int s : NO_STATES) {
            x.add(s, 4, 1).is(BAD);
        }
        for (int k : Asked.NO_KEYS) {
            x.add(1, k, 1).is(BAD);
        }
        x.count(1).is(0);
        x.add(1, 0, 1).is(1);
        x.add(1, 99, 1).is(1);

        CHECK.part("6: FULL: no free PLACE");
        x = of(10, 0);
        for (int n = 0; n < 200; n++) {
            x.add(1, 6, n).is(n + 1);
        }
        x.add(1, 6, 1).is(FULL);
        x.add(1, 7, 1).is(FULL);
        x.at(1, 6, 199).is(199);
        x.at(1, 6, 200).is(NONE);
        x.tick(10).is(200);
        x.add(1, 6, 1).is(FULL);
        x.sweep(1).is(1);
        x.add(1, 6, 1).is(1);
        x.place(1, 6, 199).is(0);
        x.add(1, 6, 1).is(FULL);
    }

    private static void at() {
        CHECK.part("7: The i-th SHOWN one of a LIST is read");
        Asked x = of(10, 1);
        for (int n = 0; n < 12; n++) {
            x.add(1, 0, -n).is(n + 1);
        }
        x.at(1, 0, 0).is(0);
        x.at(1, 0, 11).is(-11);
        x.tick(9).is(0);
        x.at(1, 0, 3).is(-3);
        x.at(1, 0, 7).is(-7);
        x.tick(1).is(10);
        x.at(1, 0, 0).is(-3);
        x.at(1, 0, 1).is(-7);

        CHECK.part("7: NONE: there are not so many");
        x.at(1, 0, 2).is(NONE);
        x.at(1, 0, 11).is(NONE);
        x.at(1, 0, MOST).is(NONE);
        x.at(1, 0, -1).is(NONE);
        x.at(1, 0, LEAST).is(NONE);
        x.at(1, 1, 0).is(NONE);
        x.tick(10).is(2);
        x.at(1, 0, 0).is(NONE);

        CHECK.part("7: BAD (-1): no such state of form 1, KEY");
        x.put(0, 0, 0, 1).is(0);
        x.at(0, 0, 0).is(BAD);
        x.at(0, 0, -1).is(BAD);
        for (int s : NO_STATES) {
            x.at(s, 0, 0).is(BAD);
        }
        for (int k : Asked.NO_KEYS) {
            x.at(1, k, 0).is(BAD);
        }
    }

    private static void clear() {
        CHECK.part("8: All of a KEY is removed: how many were SHOWN");
        Asked x = of(10, 0);
        x.clear(0, 1).is(0);
        x.clear(1, 1).is(0);
        for (int m = 0; m < 10; m++) {
            x.put(0, 1, m, m).is(0);
        }
        x.put(0, 0, 9, 1).is(0);
        x.put(0, 2, 0, 2).is(0);
        x.add(1, 1, 3).is(1);
        x.add(1, 1, 4).is(2);
        x.add(1, 2, 5).is(1);
        x.tick(9).is(0);
        x.put(0, 1, 0, 1).is(1);
        x.put(0, 1, 9, 1).is(1);
        x.add(1, 1, 5).is(3);
        x.tick(1).is(13);
        x.clear(0, 1).is(2);
        x.over(0, 1).is(0);
        x.shown(0, 1).is(0);
        x.over(0, 0).is(1);
        x.over(0, 2).is(1);
        x.over(1, 1).is(2);
        x.clear(1, 1).is(1);
        x.place(1, 1, 0).is(NONE);
        x.over(1, 2).is(1);
        x.count(1).is(3);
        x.count(4).is(0);
        x.clear(0, 0).is(0);
        x.clear(0, 0).is(0);
        x.count(1).is(2);

        CHECK.part("8: All of a KEY is removed (of all PLACES)");
        x = of(10, 0);
        for (int n = 0; n < 200; n++) {
            x.add(1, 99, n).is(n + 1);
        }
        x.clear(1, 99).is(200);
        x.count(1).is(0);
        x.add(1, 99, 1).is(1);
        x.place(1, 99, 0).is(0);

        CHECK.part("8: BAD: no such state, KEY");
        for (int s : NO_STATES) {
            x.clear(s, 0).is(BAD);
        }
        for (int k : Asked.NO_KEYS) {
            x.clear(0, k).is(BAD);
            x.clear(1, k).is(BAD);
        }
        x.count(1).is(1);
    }

    private static void held() {
        CHECK.part("9: How many ENTRIES of a KEY are SHOWN (over = false), or over and there yet");
        Asked x = of(10, 0);
        x.shown(0, 1).is(0);
        x.over(0, 1).is(0);
        for (int m = 0; m < 10; m++) {
            x.put(0, 1, m, m).is(0);
            x.tick(1).is(m == 9 ? 1 : 0);
        }
        x.put(0, 0, 9, 1).is(0);
        x.put(0, 2, 0, 1).is(0);
        x.add(1, 1, 1).is(1);
        x.shown(0, 1).is(9);
        x.over(0, 1).is(1);
        x.tick(1).is(1);
        x.shown(0, 1).is(8);
        x.over(0, 1).is(2);
        x.sweep(1).is(1);
        x.over(0, 1).is(1);
        x.put(0, 1, 1, 1).is(0);
        x.over(0, 1).is(0);
        x.shown(0, 1).is(9);
        x.shown(1, 1).is(1);
        x.tick(9).is(11);
        x.shown(1, 1).is(0);
        x.over(1, 1).is(1);
        x.over(0, 1).is(8);
        x.shown(0, 1).is(1);

        CHECK.part("9: BAD: no such state, KEY");
        for (int s : NO_STATES) {
            x.shown(s, 0).is(BAD);
            x.over(s, 0).is(BAD);
        }
        for (int k : Asked.NO_KEYS) {
            x.shown(0, k).is(BAD);
            x.over(0, k).is(BAD);
            x.shown(1, k).is(BAD);
            x.over(1, k).is(BAD);
        }
    }

    private static void left() {
        CHECK.part("10: Of what is SHOWN for a KEY and MEMBER, what is left: END less clock");
        Asked x = new Asked(CHECK);
        x.state(0, 1, 10, 0).is(0);
        x.state(1, 0, 10, 0).is(1);
        x.watermark(100).is(0);
        x.put(0, 1, 9, 1).is(0);
        x.left(0, 1, 9).is(10);
        x.watermark(109).is(0);
        x.left(0, 1, 9).is(1);
        x.tick(5).is(0);
        x.left(0, 1, 9).is(1);

        CHECK.part("10: (in a LIST: the i-th one, MEMBER being i)");
        for (int n = 0; n < 11; n++) {
            x.add(1, 1, n).is(n + 1);
        }
        x.tick(9).is(0);
        x.add(1, 1, 11).is(12);
        x.left(1, 1, 0).is(1);
        x.left(1, 1, 10).is(1);
        x.left(1, 1, 11).is(10);
        x.tick(1).is(11);
        x.left(1, 1, 0).is(9);

        CHECK.part("10: NONE: none is");
        x.left(1, 1, 1).is(NONE);
        x.left(1, 1, 11).is(NONE);
        x.left(1, 1, MOST).is(NONE);
        x.left(1, 2, 0).is(NONE);
        x.left(0, 1, 8).is(NONE);
        x.left(0, 2, 9).is(NONE);
        x.watermark(110).is(1);
        x.left(0, 1, 9).is(NONE);

        CHECK.part("10: BAD (-1): no such state, KEY; below 0 or above 9 (form 0)");
        for (int s : NO_STATES) {
            x.left(s, 0, 0).is(BAD);
        }
        for (int k : Asked.NO_KEYS) {
            x.left(0, k, 0).is(BAD);
            x.left(1, k, 0).is(BAD);
        }
        for (int m : Asked.NO_MEMBERS) {
            x.left(0, 1, m).is(BAD);
        }
        x.left(1, 1, -1).is(BAD);
        x.left(1, 1, LEAST).is(BAD);
        x.left(1, 1, 10).is(NONE);

        CHECK.part("10: (It is not read.)");
        x = of(10, 1);
        x.put(0, 0, 0, 1).is(0);
        x.add(1, 0, 1).is(1);
        x.tick(9).is(0);
        x.left(0, 0, 0).is(1);
        x.left(0, 0, 0).is(1);
        x.left(1, 0, 0).is(1);
        x.tick(1).is(2);
    }

    private static void tick() {
        CHECK.part("11: n TICKS go by: how many ENTRIES became over by it");
        Asked x = new Asked(CHECK);
        x.state(0, 0, 10, 0).is(0);
        x.state(1, 0, 12, 0).is(1);
        x.state(0, 1, 1, 0).is(2);
        x.put(0, 0, 0, 1).is(0);
        x.add(1, 0, 1).is(1);
        x.add(1, 0, 1).is(2);
        x.put(2, 0, 0, 1).is(0);
        x.tick(1).is(0);
        x.count(5).is(1);
        x.tick(8).is(0);
        x.tick(1).is(1);
        x.tick(1).is(0);
        x.tick(1).is(2);
        x.tick(1).is(0);
        x.get(2, 0, 0).is(1);
        x.put(0, 0, 0, 1).is(0);
        x.add(1, 0, 1).is(1);
        x.settingAll(1, 1).is(12);
        x.tick(100000).is(2);
        x.count(5).is(100013);
        x.count(6).is(0);

        CHECK.part("11: BAD: n is not 1 .. 100000");
        x = of(10, 0);
        int[] wrong = {0, -1, 100001, LEAST, MOST};
        for (int n : wrong) {
            x.tick(n).is(BAD);
        }
        x.count(5).is(0);
        x.tick(1).is(0);
        x.tick(100000).is(0);
        x.count(5).is(100001);
        tooManyTicks();
    }

    /** Ten thousand calls: the document promises nothing so late, but the sentence can't be met sooner. */
    private static void tooManyTicks() {
        CHECK.part("11: NO: the TICKS would be more than 1000000000");
        StateEnds x = new StateEnds();
        CHECK.due("state", x.state(0, 0, 100000, 0), 0);
        for (int n = 1; n < 10000; n++) {
            CHECK.due("tick", x.tick(100000), 0);
        }
        CHECK.due("one less", x.tick(99999), 0);
        CHECK.due("put", x.put(0, 0, 0, 1), 0);
        CHECK.due("one too many", x.tick(2), NO);
        CHECK.due("many too many", x.tick(100000), NO);
        CHECK.due("it stays", x.count(5), 999999999);
        CHECK.due("the last one", x.tick(1), 0);
        CHECK.due("it is reached", x.count(5), 1000000000);
        CHECK.due("one more", x.tick(1), NO);
        CHECK.due("BAD before NO", x.tick(0), BAD);
        CHECK.due("BAD before NO", x.tick(100001), BAD);
        CHECK.due("it stays", x.count(5), 1000000000);
        CHECK.due("it is shown", x.left(0, 0, 0), 99999);
    }

    private static void watermark() {
        CHECK.part("12: THE WATERMARK comes to t: how many ENTRIES became over by it");
        Asked x = new Asked(CHECK);
        x.state(0, 1, 10, 0).is(0);
        x.state(1, 1, 12, 0).is(1);
        x.state(0, 0, 1, 0).is(2);
        x.put(0, 0, 0, 1).is(0);
        x.add(1, 0, 1).is(1);
        x.add(1, 0, 1).is(2);
        x.put(2, 0, 0, 1).is(0);
        x.watermark(9).is(0);
        x.count(6).is(9);
        x.watermark(10).is(1);
        x.watermark(10).is(0);
        x.watermark(11).is(0);
        x.watermark(12).is(2);
        x.get(2, 0, 0).is(1);
        x.put(0, 0, 0, 1).is(0);
        x.watermark(500000000).is(1);
        x.count(6).is(500000000);
        x.count(5).is(0);

        CHECK.part("12: BAD: t is not 0 .. 1000000000");
        x = of(10, 0);
        int[] wrong = {-1, 1000000001, LEAST, MOST};
        for (int t : wrong) {
            x.watermark(t).is(BAD);
        }
        x.count(6).is(0);
        x.watermark(0).is(0);
        x.watermark(1000000000).is(0);
        x.count(6).is(1000000000);
        for (int t : wrong) {
            x.watermark(t).is(BAD);
        }
        x.watermark(1000000000).is(0);

        CHECK.part("12: NO: it is above that");
        x = of(10, 0);
        x.watermark(0).is(0);
        x.watermark(1).is(0);
        x.watermark(0).is(NO);
        x.watermark(70).is(0);
        x.watermark(69).is(NO);
        x.count(6).is(70);
        x.watermark(70).is(0);
        x.watermark(71).is(0);
        x.watermark(1000000000).is(0);
        x.watermark(999999999).is(NO);
        x.count(6).is(1000000000);
    }

    private static void sweep() {
        CHECK.part("13: A SWEEP: how many ENTRIES went");
        Asked x = of(10, 0);
        x.sweep(1).is(0);
        x.sweep(199).is(0);
        for (int k = 0; k < 4; k++) {
            x.put(0, k, 0, k).is(0);
            x.tick(1).is(0);
        }
        x.add(1, 0, 9).is(1);
        x.tick(7).is(2);
        x.sweep(200).is(2);
        x.count(1).is(3);
        x.sweep(200).is(0);
        x.tick(2).is(2);
        x.sweep(4).is(2);
        x.count(1).is(1);
        x.count(7).is(4);
        x.get(0, 3, 0).is(NONE);
        x.at(1, 0, 0).is(9);
        x.tick(1).is(1);
        x.sweep(1).is(1);
        x.count(4).is(5);

        CHECK.part("13: BAD: n is not 1 .. 200");
        x = of(1, 0);
        x.put(0, 0, 0, 1).is(0);
        x.tick(1).is(1);
        int[] wrong = {0, -1, 201, LEAST, MOST};
        for (int n : wrong) {
            x.sweep(n).is(BAD);
        }
        x.count(7).is(0);
        x.count(4).is(0);
        x.sweep(1).is(1);
        x.sweep(200).is(0);
        x.count(7).is(1);
    }

    private static void setting() {
        CHECK.part("14: A SETTING: the SPAN that was");
        Asked x = of(10, 0);
        x.setting(0, 1).is(10);
        x.settingAll(0, 100000).is(1);
        x.settingAll(0, 100000).is(100000);
        x.setting(0, 7).is(100000);
        x.setting(1, 8).is(10);
        x.setting(0, 7).is(7);

        CHECK.part("14: BAD: no such state");
        for (int s : NO_STATES) {
            x.setting(s, 5).is(BAD);
            x.settingAll(s, 5).is(BAD);
        }

        CHECK.part("14: BAD: span");
        x.put(0, 0, 0, 1).is(0);
        for (int span : Asked.NO_SPANS) {
            x.setting(0, span).is(BAD);
            x.settingAll(0, span).is(BAD);
        }
        x.left(0, 0, 0).is(7);
        x.setting(0, 7).is(7);
        x.setting(1, 8).is(8);
    }

    private static void mark() {
        CHECK.part("15: A MARK (0 .. 2) is made, in place of one that was: how many ENTRIES");
        Asked x = of(10, 0);
        x.mark(0).is(0);
        x.put(0, 0, 0, 1).is(0);
        x.add(1, 0, 2).is(1);
        x.add(1, 0, 3).is(2);
        x.mark(1).is(3);
        x.mark(2).is(3);
        x.count(1).is(3);
        x.tick(5).is(0);
        x.put(0, 5, 5, 4).is(0);
        x.tick(5).is(3);
        x.mark(1).is(1);
        x.count(1).is(4);
        x.restore(1).is(1);
        x.place(0, 5, 5).is(0);
        x.place(1, 0, 0).is(NONE);
        x.restore(2).is(3);
        x.mark(0).is(3);
        x.clear(0, 0).is(1);
        x.restore(0).is(3);
        x.get(0, 0, 0).is(1);

        CHECK.part("15: BAD: no such number");
        for (int m : Asked.NO_MARKS) {
            x.mark(m).is(BAD);
        }
        x.restore(0).is(3);
    }

    private static void restore() {
        CHECK.part("16: A MARK is RESTORED: how many ENTRIES there are");
        Asked x = of(10, 0);
        x.put(0, 0, 0, 1).is(0);
        x.add(1, 0, 2).is(1);
        x.mark(0).is(2);
        x.put(0, 0, 1, 3).is(0);
        x.mark(2).is(3);
        x.tick(10).is(3);
        x.restore(0).is(2);
        x.count(1).is(2);
        x.get(0, 0, 0).is(1);
        x.at(1, 0, 0).is(2);
        x.get(0, 0, 1).is(NONE);
        x.restore(2).is(3);
        x.count(1).is(3);
        x.get(0, 0, 1).is(3);

        CHECK.part("16: BAD: no such number");
        for (int m : Asked.NO_MARKS) {
            x.restore(m).is(BAD);
        }
        x.count(1).is(3);

        CHECK.part("16: NO: it was not made");
        x.restore(1).is(NO);
        x.count(1).is(3);
        x.mark(1).is(3);
        x.restore(1).is(3);
    }

    private static void row() {
        CHECK.part("17: Of the i-th ROW that is kept: 0 state, 1 KEY, 2 MEMBER, 3 number, 4 END, 5 TICK");
        Asked x = new Asked(CHECK);
        x.state(1, 0, 8, 0).is(0);
        x.state(0, 1, 30, 0).is(1);
        x.watermark(100).is(0);
        x.put(1, 42, 7, -5).is(0);
        x.add(0, 99, NONE).is(1);
        x.tick(13).is(1);
        x.watermark(131).is(1);
        x.sweep(1).is(1);
        x.tick(1).is(0);
        x.sweep(1).is(1);
        x.rowIs(0, 1, 42, 7, -5, 130, 13);
        x.rowIs(1, 0, 99, 0, NONE, 8, 14);

        CHECK.part("17: NONE: none such");
        int[] noRows = {-1, 2, 3, 149, 150, LEAST, MOST};
        for (int i : noRows) {
            x.row(i, 0).is(NONE);
            x.row(i, 5).is(NONE);
        }

        CHECK.part("17: NONE: none such, or what");
        int[] noWhats = {-1, 6, 7, LEAST, MOST};
        for (int what : noWhats) {
            x.row(0, what).is(NONE);
            x.row(1, what).is(NONE);
            x.row(2, what).is(NONE);
        }
    }

    private static void place() {
        CHECK.part("18: The PLACE of the ENTRY of a KEY and MEMBER");
        Asked x = of(10, 0);
        x.put(0, 0, 9, 1).is(0);
        x.put(0, 99, 0, 1).is(0);
        x.place(0, 0, 9).is(0);
        x.place(0, 99, 0).is(1);
        x.tick(10).is(2);
        x.place(0, 99, 0).is(1);

        CHECK.part("18: (in a LIST: the i-th one that is there, over or not)");
        x = of(10, 1);
        x.put(0, 0, 0, 1).is(0);
        for (int n = 0; n < 12; n++) {
            x.add(1, 0, n).is(n + 1);
        }
        x.remove(0, 0, 0).is(1);
        x.add(1, 0, 12).is(13);
        x.tick(9).is(0);
        x.at(1, 0, 5).is(5);
        x.tick(1).is(12);
        x.place(1, 0, 0).is(1);
        x.place(1, 0, 5).is(6);
        x.place(1, 0, 11).is(12);
        x.place(1, 0, 12).is(0);
        x.sweep(3).is(3);
        x.place(1, 0, 0).is(3);
        x.place(1, 0, 3).is(6);
        x.place(1, 0, 9).is(12);

        CHECK.part("18: NONE: none");
        x.place(1, 0, 10).is(NONE);
        x.place(1, 0, MOST).is(NONE);
        x.place(1, 1, 0).is(NONE);
        x.place(0, 0, 0).is(NONE);
        x.place(0, 0, 9).is(NONE);

        CHECK.part("18: BAD (-1): as left()");
        for (int s : NO_STATES) {
            x.place(s, 0, 0).is(BAD);
        }
        for (int k : Asked.NO_KEYS) {
            x.place(0, k, 0).is(BAD);
            x.place(1, k, 0).is(BAD);
        }
        for (int m : Asked.NO_MEMBERS) {
            x.place(0, 0, m).is(BAD);
        }
        x.place(1, 0, -1).is(BAD);
        x.place(1, 0, LEAST).is(BAD);
    }

    private static void next() {
        CHECK.part("19: The least END of all SHOWN ENTRIES of a state");
        Asked x = of(10, 0);
        x.put(0, 50, 5, 1).is(0);
        x.tick(2).is(0);
        x.put(0, 1, 1, 1).is(0);
        x.put(0, 99, 9, 1).is(0);
        x.add(1, 1, 1).is(1);
        x.next(0).is(10);
        x.next(1).is(12);
        x.tick(7).is(0);
        x.next(0).is(10);
        x.tick(1).is(1);
        x.next(0).is(12);
        x.setting(0, 1).is(10);
        x.put(0, 98, 0, 1).is(0);
        x.next(0).is(11);
        x.remove(0, 98, 0).is(1);
        x.next(0).is(12);
        x.setting(1, 1).is(10);
        x.add(1, 99, 1).is(1);
        x.next(1).is(11);
        x.clear(1, 99).is(1);
        x.next(1).is(12);
        x.next(0).is(12);

        CHECK.part("19: NONE: none is");
        x.tick(2).is(3);
        x.next(0).is(NONE);
        x.next(1).is(NONE);
        x.sweep(200).is(4);
        x.next(0).is(NONE);
        x.put(0, 0, 0, 1).is(0);
        x.remove(0, 0, 0).is(1);
        x.next(0).is(NONE);

        CHECK.part("19: BAD: no such state");
        for (int s : NO_STATES) {
            x.next(s).is(BAD);
        }

        CHECK.part("19: of all SHOWN ENTRIES of a state (in all PLACES)");
        x = of(10, 0);
        x.fill(0);
        x.tick(3).is(0);
        x.next(0).is(10);
        x.next(1).is(NONE);
        x.setting(0, 6).is(10);
        x.put(0, 99, 1, 1).is(1);
        x.next(0).is(9);
        x.tick(6).is(1);
        x.next(0).is(10);
        x.tick(1).is(199);
        x.next(0).is(NONE);
    }

    private static void count() {
        CHECK.part("20: How many: 0 STATES, 1 ENTRIES, 2 SHOWN ones, 3 ROWS kept, 4 ROWS ever; 5 TICKS; "
                + "6 THE WATERMARK; 7 the PLACE at which the next SWEEP begins");
        Asked x = new Asked(CHECK);
        x.state(0, 0, 10, 0).is(0);
        x.state(1, 0, 8, 0).is(1);
        x.state(0, 1, 8, 0).is(2);
        x.add(1, 0, 1).is(1);
        x.put(0, 0, 0, 1).is(0);
        x.add(1, 0, 2).is(2);
        x.put(0, 1, 0, 1).is(0);
        x.put(2, 0, 0, 1).is(0);
        x.tick(9).is(2);
        x.watermark(7).is(0);
        x.sweep(2).is(1);
        countsAre(x, 3, 4, 3, 1, 1, 9, 7, 2);
        x.sweep(198).is(1);
        countsAre(x, 3, 3, 3, 2, 2, 9, 7, 0);

        CHECK.part("20: 3 ROWS kept, 4 ROWS ever (all PLACES)");
        x = of(1, 0);
        x.fill(0);
        countsAre(x, 2, 200, 200, 0, 0, 0, 0, 0);
        x.tick(1).is(200);
        countsAre(x, 2, 200, 0, 0, 0, 1, 0, 0);
        x.sweep(199).is(199);
        countsAre(x, 2, 1, 0, 150, 199, 1, 0, 199);
        x.sweep(1).is(1);
        countsAre(x, 2, 0, 0, 150, 200, 1, 0, 0);

        CHECK.part("20: BAD: another what");
        int[] wrong = {-1, 8, 9, LEAST, MOST};
        for (int what : wrong) {
            x.count(what).is(BAD);
        }
    }

    private static void countsAre(Asked x, int... counts) {
        for (int what = 0; what < counts.length; what++) {
            x.count(what).is(counts[what]);
        }
    }
}
