import java.util.ArrayList;
import java.util.List;

/**
 * "They change nothing": twins are made by the same calls, one of them gets the refused call besides, and then both
 * answer the same to all that can be asked. So do calls that only ask. A twin keeps to 512 calls.
 */
public final class UnchangedTest {
    private static final int BAD = Asked.BAD, NO = Asked.NO, FULL = Asked.FULL, NONE = Asked.NONE;
    private static final int LEAST = Asked.LEAST, MOST = Asked.MOST;
    private static final int[] NO_STATES = {-1, 4, 5, 6, LEAST, MOST};
    private static final int[] KEYS = {1, 2, 99};
    private static final int[] MEMBERS = {0, 1, 2, 9};
    private static final Check CHECK = new Check("UnchangedTest");

    private interface Call {
        int on(StateEnds x);
    }

    /** Makes a twin, and tells all that it answers. */
    private interface World {
        StateEnds make();

        List<String> tell(StateEnds x);
    }

    public static void main(String[] args) {
        World mixed = new Mixed();
        badStates(mixed);
        badKeys(mixed);
        badMembers(mixed);
        badForms(mixed);
        badNumbers(mixed);
        notNow(mixed);
        noneThere(mixed);
        onlyAsked(mixed);
        full();
        seen(mixed);
        CHECK.end();
    }

    private static void same(World world, String name, int want, Call call) {
        CHECK.part(name);
        StateEnds asked = world.make();
        CHECK.due("its answer", call.on(asked), want);
        List<String> got = world.tell(asked);
        List<String> due = world.tell(world.make());
        for (int n = 0; n < due.size(); n++) {
            CHECK.holds("afterwards " + got.get(n) + ", due is " + due.get(n), got.get(n).equals(due.get(n)));
        }
    }

    private static void badStates(World world) {
        for (int s : NO_STATES) {
            same(world, "put, state " + s, BAD, x -> x.put(s, 1, 1, 9));
            same(world, "get, state " + s, BAD, x -> x.get(s, 1, 1));
            same(world, "remove, state " + s, BAD, x -> x.remove(s, 1, 1));
            same(world, "add, state " + s, BAD, x -> x.add(s, 1, 9));
            same(world, "at, state " + s, BAD, x -> x.at(s, 1, 0));
            same(world, "clear, state " + s, BAD, x -> x.clear(s, 1));
            same(world, "held, state " + s, BAD, x -> x.held(s, 1, true));
            same(world, "left, state " + s, BAD, x -> x.left(s, 1, 1));
            same(world, "place, state " + s, BAD, x -> x.place(s, 1, 1));
            same(world, "next, state " + s, BAD, x -> x.next(s));
            same(world, "setting, state " + s, BAD, x -> x.setting(s, 3, false));
            same(world, "setting with all, state " + s, BAD, x -> x.setting(s, 3, true));
        }
    }

    private static void badKeys(World world) {
        for (int k : Asked.NO_KEYS) {
            same(world, "put, key " + k, BAD, x -> x.put(0, k, 1, 9));
            same(world, "get, key " + k, BAD, x -> x.get(2, k, 1));
            same(world, "remove, key " + k, BAD, x -> x.remove(0, k, 1));
            same(world, "add, key " + k, BAD, x -> x.add(1, k, 9));
            same(world, "at, key " + k, BAD, x -> x.at(1, k, 0));
            same(world, "clear, key " + k, BAD, x -> x.clear(0, k));
            same(world, "clear of a list, key " + k, BAD, x -> x.clear(1, k));
            same(world, "held, key " + k, BAD, x -> x.held(0, k, false));
            same(world, "left, key " + k, BAD, x -> x.left(0, k, 1));
            same(world, "place, key " + k, BAD, x -> x.place(1, k, 0));
        }
    }

    private static void badMembers(World world) {
        for (int m : Asked.NO_MEMBERS) {
            same(world, "put, member " + m, BAD, x -> x.put(0, 1, m, 9));
            same(world, "get, member " + m, BAD, x -> x.get(2, 1, m));
            same(world, "remove, member " + m, BAD, x -> x.remove(0, 1, m));
            same(world, "left, member " + m, BAD, x -> x.left(0, 1, m));
            same(world, "place, member " + m, BAD, x -> x.place(0, 1, m));
        }
        same(world, "left, index -1", BAD, x -> x.left(1, 1, -1));
        same(world, "place, index -1", BAD, x -> x.place(1, 1, -1));
    }

    private static void badForms(World world) {
        for (int s = 1; s <= 3; s += 2) {
            int list = s;
            same(world, "put, list " + s, BAD, x -> x.put(list, 1, 0, 9));
            same(world, "get, list " + s, BAD, x -> x.get(list, 1, 0));
            same(world, "remove, list " + s, BAD, x -> x.remove(list, 1, 0));
            int numbers = s - 1;
            same(world, "add, numbers " + numbers, BAD, x -> x.add(numbers, 1, 9));
            same(world, "at, numbers " + numbers, BAD, x -> x.at(numbers, 1, 1));
        }
    }

    private static void badNumbers(World world) {
        int[] notBits = {-1, 2, LEAST, MOST};
        for (int n : notBits) {
            same(world, "state, form " + n, BAD, x -> x.state(n, 0, 5, 0));
            same(world, "state, clock " + n, BAD, x -> x.state(0, n, 5, 0));
            same(world, "state, way " + n, BAD, x -> x.state(0, 0, 5, n));
        }
        for (int n : Asked.NO_SPANS) {
            same(world, "state, span " + n, BAD, x -> x.state(0, 0, n, 0));
            same(world, "setting, span " + n, BAD, x -> x.setting(0, n, false));
            same(world, "setting with all, span " + n, BAD, x -> x.setting(0, n, true));
        }
        int[] noTicks = {0, -1, 100001, LEAST, MOST};
        for (int n : noTicks) {
            same(world, "tick " + n, BAD, x -> x.tick(n));
        }
        int[] noTimes = {-1, 1000000001, LEAST, MOST};
        for (int t : noTimes) {
            same(world, "watermark " + t, BAD, x -> x.watermark(t));
        }
        int[] noSweeps = {0, -1, 201, LEAST, MOST};
        for (int n : noSweeps) {
            same(world, "sweep " + n, BAD, x -> x.sweep(n));
        }
        for (int m : Asked.NO_MARKS) {
            same(world, "mark " + m, BAD, x -> x.mark(m));
            same(world, "restore " + m, BAD, x -> x.restore(m));
        }
        int[] noCounts = {-1, 8, LEAST, MOST};
        for (int what : noCounts) {
            same(world, "count " + what, BAD, x -> x.count(what));
        }
    }

    private static void notNow(World world) {
        same(world, "remove, none there", NO, x -> x.remove(0, 1, 9));
        same(world, "remove, none of the key", NO, x -> x.remove(0, 50, 0));
        same(world, "watermark, one less", NO, x -> x.watermark(19));
        same(world, "watermark 0", NO, x -> x.watermark(0));
        same(world, "restore, not made", NO, x -> x.restore(2));
    }

    private static void noneThere(World world) {
        same(world, "get, none there", NONE, x -> x.get(2, 1, 9));
        same(world, "get, over", NONE, x -> x.get(2, 2, 2));
        same(world, "at, not so many", NONE, x -> x.at(1, 1, 1));
        same(world, "at, below 0", NONE, x -> x.at(1, 1, -1));
        same(world, "at, empty", NONE, x -> x.at(1, 50, 0));
        same(world, "left, none there", NONE, x -> x.left(0, 1, 9));
        same(world, "left, over", NONE, x -> x.left(2, 2, 2));
        same(world, "left, not so many", NONE, x -> x.left(1, 1, 1));
        same(world, "place, none there", NONE, x -> x.place(0, 1, 9));
        same(world, "place, not so many", NONE, x -> x.place(1, 1, 2));
        same(world, "row, none such", NONE, x -> x.row(1, 0));
        same(world, "row, what", NONE, x -> x.row(0, 6));
    }

    private static void onlyAsked(World world) {
        same(world, "get, way 0", 11, x -> x.get(0, 1, 1));
        same(world, "at, way 0", 41, x -> x.at(3, 1, 0));
        same(world, "held, shown", 1, x -> x.held(1, 1, false));
        same(world, "held, over", 1, x -> x.held(1, 1, true));
        same(world, "left, way 1", 5, x -> x.left(2, 1, 1));
        same(world, "left of a list, way 1", 3, x -> x.left(1, 1, 0));
        same(world, "place, way 1", 4, x -> x.place(2, 1, 1));
        same(world, "next, way 1", 25, x -> x.next(2));
        same(world, "row", 21, x -> x.row(0, 3));
        for (int what = 0; what <= 7; what++) {
            int due = new int[] {4, 8, 6, 1, 1, 8, 20, 3}[what];
            int of = what;
            same(world, "count " + what, due, x -> x.count(of));
        }
        same(world, "watermark, the same", 0, x -> x.watermark(20));
        same(world, "a mark of the same", 6, x -> x.mark(1));
        same(world, "a setting to the span that is", 10, x -> x.setting(0, 10, false));
        same(world, "a setting with all to the span that is", 10, x -> x.setting(0, 10, true));
    }

    private static void full() {
        World six = new SixStates();
        same(six, "a seventh state", FULL, x -> x.state(0, 0, 9, 0));
        same(six, "a seventh state of lists", FULL, x -> x.state(1, 1, 9, 1));
        World places = new AllPlaces();
        same(places, "put, no place", FULL, x -> x.put(0, 0, 1, 9));
        same(places, "put, no place for another key", FULL, x -> x.put(0, 99, 9, 9));
        same(places, "add, no place", FULL, x -> x.add(1, 0, 9));
        same(places, "add, no place for another key", FULL, x -> x.add(1, 99, 9));
        same(places, "put, no place and BAD", BAD, x -> x.put(0, 0, 10, 9));
    }

    /** The twins must tell a change where there is one, or this test would pass whatever the class did. */
    private static void seen(World world) {
        CHECK.part("what changes is seen");
        Call[] changes = {x -> x.put(0, 1, 1, 9), x -> x.get(2, 1, 1), x -> x.remove(0, 1, 2), x -> x.add(1, 1, 9),
            x -> x.at(1, 1, 0), x -> x.clear(3, 1), x -> x.tick(1), x -> x.watermark(21), x -> x.sweep(1),
            x -> x.setting(3, 29, false), x -> x.setting(0, 11, true), x -> x.mark(2), x -> x.mark(0),
            x -> x.restore(0), x -> x.restore(1), x -> x.state(0, 0, 5, 0), x -> x.sweep(200)};
        List<String> due = world.tell(world.make());
        for (int n = 0; n < changes.length; n++) {
            StateEnds changed = world.make();
            changes[n].on(changed);
            CHECK.holds("change " + n, !world.tell(changed).equals(due));
        }
    }

    /** Four states, of each form and clock; entries shown and over, one row, marks 0 and 1. */
    private static final class Mixed implements World {
        public StateEnds make() {
            StateEnds x = new StateEnds();
            x.state(0, 0, 10, 0);
            x.state(1, 0, 8, 1);
            x.state(0, 1, 20, 1);
            x.state(1, 1, 30, 0);
            x.put(0, 1, 1, 11);
            x.put(0, 1, 2, 12);
            x.add(1, 1, 21);
            x.add(1, 1, 22);
            x.put(2, 1, 1, 31);
            x.put(2, 2, 2, 32);
            x.add(3, 1, 41);
            x.tick(3);
            x.watermark(5);
            x.put(0, 99, 9, 13);
            x.add(1, 1, 23);
            x.put(2, 1, 1, 33);
            x.mark(0);
            x.tick(5);
            x.watermark(20);
            x.sweep(3);
            x.mark(1);
            return x;
        }

        public List<String> tell(StateEnds x) {
            List<String> told = new ArrayList<>();
            tellCounts(told, x);
            tellEntries(told, x);
            tellNumbers(told, x);
            tellSpansAndStamps(told, x);
            for (int m = 0; m < 3; m++) {
                told.add("restore " + m + ": " + x.restore(m));
                tellRestored(told, x);
            }
            for (int n = 0; n < 3; n++) {
                told.add("state: " + x.state(0, 0, 5, 0));
            }
            return told;
        }

        private static void tellEntries(List<String> told, StateEnds x) {
            for (int s = 0; s < 4; s++) {
                told.add("next " + s + ": " + x.next(s));
                for (int k : KEYS) {
                    told.add("shown " + s + " " + k + ": " + x.held(s, k, false));
                    told.add("over " + s + " " + k + ": " + x.held(s, k, true));
                    for (int m : MEMBERS) {
                        told.add("left " + s + " " + k + " " + m + ": " + x.left(s, k, m));
                        told.add("place " + s + " " + k + " " + m + ": " + x.place(s, k, m));
                    }
                }
            }
        }

        private static void tellNumbers(List<String> told, StateEnds x) {
            for (int k : KEYS) {
                for (int m : MEMBERS) {
                    told.add("get 0 " + k + " " + m + ": " + x.get(0, k, m));
                    told.add("at 3 " + k + " " + m + ": " + x.at(3, k, m));
                }
            }
        }

        /** With another span for all, what is left shows each stamp: so this comes before what reads by way 1. */
        private static void tellSpansAndStamps(List<String> told, StateEnds x) {
            for (int s = 0; s < 4; s++) {
                told.add("setting " + s + ": " + x.setting(s, 90000, true));
                for (int k : KEYS) {
                    for (int m : MEMBERS) {
                        told.add("stamped " + s + " " + k + " " + m + ": " + x.left(s, k, m));
                    }
                }
            }
            told.add("get 2 1 1: " + x.get(2, 1, 1));
            told.add("get 2 2 2: " + x.get(2, 2, 2));
            told.add("at 1 1 0: " + x.at(1, 1, 0));
            told.add("at 1 1 1: " + x.at(1, 1, 1));
        }

        private static void tellRestored(List<String> told, StateEnds x) {
            told.add("restored, entries " + x.count(1) + ", sweep from " + x.count(7));
            for (int s = 0; s < 4; s++) {
                told.add("restored, next " + s + ": " + x.next(s));
            }
            told.add("restored, left of a list " + x.left(1, 1, 0) + " " + x.left(1, 1, 1) + " " + x.left(1, 1, 2));
            told.add("restored, numbers " + x.get(0, 1, 1) + " " + x.get(0, 1, 2) + " " + x.get(2, 1, 1) + " "
                    + x.get(2, 2, 2) + " " + x.at(1, 1, 0) + " " + x.at(3, 1, 0));
        }
    }

    private static void tellCounts(List<String> told, StateEnds x) {
        for (int what = 0; what <= 7; what++) {
            told.add("count " + what + ": " + x.count(what));
        }
        for (int what = 0; what < 6; what++) {
            told.add("row 0 " + what + ": " + x.row(0, what));
            told.add("row 1 " + what + ": " + x.row(1, what));
        }
    }

    private static final class SixStates implements World {
        public StateEnds make() {
            StateEnds x = new StateEnds();
            for (int s = 0; s < 6; s++) {
                x.state(s % 2, s / 2 % 2, 10 + s, s / 3);
            }
            return x;
        }

        public List<String> tell(StateEnds x) {
            List<String> told = new ArrayList<>();
            tellCounts(told, x);
            for (int s = 0; s < 7; s++) {
                told.add("put " + s + ": " + x.put(s, 0, 0, 1));
                told.add("add " + s + ": " + x.add(s, 0, 1));
            }
            told.add("watermark: " + x.watermark(3));
            for (int s = 0; s < 7; s++) {
                told.add("get " + s + ": " + x.get(s, 0, 0));
                told.add("at " + s + ": " + x.at(s, 0, 0));
                told.add("left " + s + ": " + x.left(s, 0, 0));
                told.add("setting " + s + ": " + x.setting(s, 1, false));
            }
            return told;
        }
    }

    /** A hundred numbers and a list of a hundred, half of them over. */
    private static final class AllPlaces implements World {
        public StateEnds make() {
            StateEnds x = new StateEnds();
            x.state(0, 0, 10, 0);
            x.state(1, 0, 10, 0);
            for (int n = 0; n < 100; n++) {
                x.put(0, n, 0, n);
                x.add(1, 0, n);
                if (n == 49) {
                    x.tick(5);
                }
            }
            x.tick(5);
            return x;
        }

        public List<String> tell(StateEnds x) {
            List<String> told = new ArrayList<>();
            tellCounts(told, x);
            for (int n = 0; n < 100; n++) {
                told.add("left 0 " + n + ": " + x.left(0, n, 0));
                told.add("at 1 0 " + n + ": " + x.at(1, 0, n));
            }
            told.add("mark: " + x.mark(0));
            told.add("sweep: " + x.sweep(200));
            for (int i = 0; i < 6; i++) {
                told.add("the last row " + i + ": " + x.row(99, i));
            }
            told.add("add: " + x.add(1, 0, 7) + " into " + x.place(1, 0, 50));
            told.add("put: " + x.put(0, 99, 9, 7) + " into " + x.place(0, 99, 9));
            return told;
        }
    }
}
