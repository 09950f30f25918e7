import java.util.Random;

/**
 * Long runs of mixed calls, each answer compared with the model's; the seeds are fixed, so a run can be had again.
 * A run and what is asked at its end go beyond 512 calls: the document leaves that free, but here nothing changes then.
 */
public final class ModelTest {
    private static final int RUNS = 400;
    private static final int CALLS = 512;
    private static final int WILD_RUNS = 20;
    private static final int WILD_CALLS = 5000;
    private static final int[] ODD = {-1, 0, 1, 2, 3, 5, 6, 9, 10, 11, 99, 100, 149, 150, 199, 200, 201, 100000,
        100001, 1000000000, 1000000001, Integer.MIN_VALUE, Integer.MAX_VALUE};
    private static final Check CHECK = new Check("ModelTest");

    private final Random random;
    private final StateEnds x = new StateEnds();
    private final Model y = new Model();
    /** Few keys crowd the lists, many fill the places; short spans end soon, long ones live through the run. */
    private final int keys;
    private final int span;
    private final int hurry;
    private final int oddEvery;

    private ModelTest(int seed, int oddEvery) {
        random = new Random(seed);
        this.oddEvery = oddEvery;
        keys = 1 + random.nextInt(seed % 2 == 0 ? 3 : 100);
        span = 1 + random.nextInt(seed % 3 == 0 ? 300 : 20);
        hurry = 2 + random.nextInt(14);
    }

    public static void main(String[] args) {
        for (int seed = 0; seed < RUNS && CHECK.wrong() == 0; seed++) {
            CHECK.part("seed " + seed);
            new ModelTest(seed, 40).run(CALLS);
        }
        // No call may throw, for any arguments in any state, however late.
        for (int seed = 0; seed < WILD_RUNS && CHECK.wrong() == 0; seed++) {
            CHECK.part("wild seed " + seed);
            new ModelTest(seed, 2 + seed % 9).run(WILD_CALLS);
        }
        CHECK.end();
    }

    private void run(int calls) {
        for (int n = 0; n < calls && CHECK.wrong() == 0; n++) {
            if (n < 4 || random.nextInt(100) == 0) {
                state();
            } else if (random.nextInt(hurry) == 0) {
                timeOrSweep(random.nextInt(6));
            } else if (random.nextInt(3) != 0) {
                write();
            } else {
                entry(random.nextInt(10));
            }
        }
        compareAll();
    }

    private int odd(int usual) {
        return random.nextInt(oddEvery) == 0 ? ODD[random.nextInt(ODD.length)] : usual;
    }

    private int anyState() {
        return odd(random.nextInt(6));
    }

    private int anyKey() {
        return odd(random.nextInt(keys));
    }

    private int anyMember() {
        return odd(random.nextInt(10));
    }

    private int anySpan() {
        return odd(1 + random.nextInt(span));
    }

    private static void due(String call, int got, int want, int... with) {
        CHECK.due(call + java.util.Arrays.toString(with), got, want);
    }

    private void state() {
        int f = odd(random.nextInt(2)), c = odd(random.nextInt(2)), s = anySpan(), w = odd(random.nextInt(2));
        due("state", x.state(f, c, s, w), y.state(f, c, s, w), f, c, s, w);
    }

    private void write() {
        int s = anyState(), k = anyKey(), m = anyMember(), v = random.nextInt();
        due("put", x.put(s, k, m, v), y.put(s, k, m, v), s, k, m, v);
        due("add", x.add(s, k, v), y.add(s, k, v), s, k, v);
    }

    private void entry(int which) {
        int s = anyState(), k = anyKey(), m = anyMember();
        switch (which) {
            case 0 -> due("remove", x.remove(s, k, m), y.remove(s, k, m), s, k, m);
            case 1 -> clearOrSetting(s, k);
            case 2 -> due("held", x.held(s, k, true), y.held(s, k, true), s, k);
            case 3 -> due("held not over", x.held(s, k, false), y.held(s, k, false), s, k);
            case 4 -> due("left", x.left(s, k, m), y.left(s, k, m), s, k, m);
            case 5 -> due("place", x.place(s, k, m), y.place(s, k, m), s, k, m);
            case 6 -> due("next", x.next(s), y.next(s), s);
            case 7 -> due("count", x.count(m), y.count(m), m);
            case 8 -> due("get", x.get(s, k, m), y.get(s, k, m), s, k, m);
            default -> due("at", x.at(s, k, m), y.at(s, k, m), s, k, m);
        }
    }

    private void clearOrSetting(int s, int k) {
        if (random.nextInt(4) == 0) {
            due("clear", x.clear(s, k), y.clear(s, k), s, k);
        } else {
            int to = anySpan();
            boolean all = random.nextBoolean();
            due("setting", x.setting(s, to, all), y.setting(s, to, all), s, to, all ? 1 : 0);
        }
    }

    private void timeOrSweep(int which) {
        int n = odd(1 + random.nextInt(6)), m = odd(random.nextInt(3)), w = odd(1 + random.nextInt(60));
        int t = odd(y.count(6) + random.nextInt(8) - 1);
        // A leap to the end of time would leave the watermark standing for the rest of the run.
        t = t == 1000000000 && random.nextInt(4) != 0 ? 0 : t;
        switch (which) {
            case 0, 1 -> due("tick", x.tick(n), y.tick(n), n);
            case 2, 3 -> due("watermark", x.watermark(t), y.watermark(t), t);
            case 4 -> due("sweep", x.sweep(w), y.sweep(w), w);
            default -> markOrRestore(m);
        }
    }

    private void markOrRestore(int m) {
        if (random.nextInt(3) != 0) {
            due("mark", x.mark(m), y.mark(m), m);
        } else {
            due("restore", x.restore(m), y.restore(m), m);
        }
    }

    private void compareAll() {
        for (int what = -1; what <= 8; what++) {
            due("count", x.count(what), y.count(what), what);
        }
        for (int i = -1; i <= 150; i++) {
            for (int what = -1; what <= 6; what++) {
                due("row", x.row(i, what), y.row(i, what), i, what);
            }
        }
        for (int s = 0; s < 6; s++) {
            due("next", x.next(s), y.next(s), s);
            for (int k = 0; k < keys; k++) {
                for (int m = 0; m < 11; m++) {
                    due("place", x.place(s, k, m), y.place(s, k, m), s, k, m);
                    due("left", x.left(s, k, m), y.left(s, k, m), s, k, m);
                }
            }
        }
    }
}
