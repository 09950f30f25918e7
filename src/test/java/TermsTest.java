/** The document's 'Terms': a test for each sentence that names a boundary; the part's name is the sentence. */
public final class TermsTest {
    private static final int BAD = Asked.BAD, NO = Asked.NO, FULL = Asked.FULL, NONE = Asked.NONE;
    private static final Check CHECK = new Check("TermsTest");

    public static void main(String[] args) {
        errors();
        clocks();
        states();
        places();
        ends();
        stamps();
        rows();
        sweeps();
        settings();
        marks();
        restores();
        CHECK.end();
    }

    private static Asked of(int span, int way) {
        return Asked.ofTwoForms(CHECK, span, way);
    }

    private static void errors() {
        badBeforeFull();
        badBeforeNo();
    }

    private static void badBeforeFull() {
        CHECK.part("of several the first one here (BAD before FULL)");
        Asked x = of(10, 0);
        for (int s = 2; s < 6; s++) {
            x.state(0, 0, 1, 0).is(s);
        }
        x.state(0, 0, 1, 0).is(FULL);
        x.state(2, 0, 1, 0).is(BAD);
        x.state(0, 2, 1, 0).is(BAD);
        x.state(0, 0, 0, 0).is(BAD);
        x.state(0, 0, 1, 2).is(BAD);
        x.fill(0);
        x.put(0, 0, 2, 1).is(FULL);
        x.put(0, 0, 10, 1).is(BAD);
        x.put(0, 100, 2, 1).is(BAD);
        x.put(1, 0, 2, 1).is(BAD);
        x.put(6, 0, 2, 1).is(BAD);
        x.add(1, 0, 1).is(FULL);
        x.add(1, 100, 1).is(BAD);
        x.add(0, 0, 1).is(BAD);
        x.add(6, 0, 1).is(BAD);
    }

    private static void badBeforeNo() {
        CHECK.part("of several the first one here (BAD before NO)");
        Asked x = of(10, 0);
        x.remove(0, 0, 0).is(NO);
        x.remove(0, 0, 10).is(BAD);
        x.remove(0, 100, 0).is(BAD);
        x.remove(1, 0, 0).is(BAD);
        x.remove(2, 0, 0).is(BAD);
        x.watermark(5).is(0);
        x.watermark(4).is(NO);
        x.watermark(-1).is(BAD);
        x.restore(2).is(NO);
        x.restore(3).is(BAD);
        x.restore(-1).is(BAD);
    }

    private static void clocks() {
        CHECK.part("TWO CLOCKS, 0 at first");
        Asked x = new Asked(CHECK);
        x.count(5).is(0);
        x.count(6).is(0);
        x.state(0, 0, 3, 0).is(0);
        x.state(0, 1, 4, 0).is(1);
        x.put(0, 0, 0, 1).is(0);
        x.put(1, 0, 0, 1).is(0);
        x.next(0).is(3);
        x.next(1).is(4);
        x.watermark(0).is(0);

        CHECK.part("TICKS (clock 0) and THE WATERMARK (clock 1)");
        x.tick(4).is(1);
        x.get(0, 0, 0).is(NONE);
        x.get(1, 0, 0).is(1);
        x.count(6).is(0);
        x.watermark(4).is(1);
        x.get(1, 0, 0).is(NONE);
        x.count(5).is(4);
    }

    private static void states() {
        sixStates();
        forms();
        spans();
        keys();
        members();
    }

    private static void sixStates() {
        CHECK.part("STATES (6)");
        Asked x = new Asked(CHECK);
        for (int s = 0; s < 6; s++) {
            x.next(s).is(BAD);
            x.state(0, 0, s + 1, 0).is(s);
            x.next(s).is(NONE);
        }
        x.state(0, 0, 7, 0).is(FULL);
        x.next(6).is(BAD);
        for (int s = 0; s < 6; s++) {
            x.setting(s, 50).is(s + 1);
        }
    }

    private static void forms() {
        CHECK.part("a form (0: a number for each KEY and MEMBER; 1: a LIST of numbers for each KEY)");
        Asked x = of(10, 0);
        x.put(0, 0, 9, 1).is(0);
        x.put(0, 1, 0, 2).is(0);
        x.put(0, 0, 9, 3).is(1);
        x.get(0, 0, 9).is(3);
        x.get(0, 1, 0).is(2);
        x.get(0, 0, 0).is(NONE);
        x.add(1, 0, 4).is(1);
        x.add(1, 0, 4).is(2);
        x.add(1, 1, 5).is(1);
        x.at(1, 0, 1).is(4);
        x.at(1, 1, 0).is(5);
        x.count(1).is(5);
    }

    private static void spans() {
        CHECK.part("a SPAN (1 .. 100000)");
        Asked x = new Asked(CHECK);
        for (int span : Asked.NO_SPANS) {
            x.state(0, 0, span, 0).is(BAD);
        }
        x.state(0, 0, 1, 0).is(0);
        x.state(0, 0, 100000, 0).is(1);
        for (int span : Asked.NO_SPANS) {
            x.setting(0, span).is(BAD);
            x.settingAll(0, span).is(BAD);
        }
        x.put(0, 0, 0, 1).is(0);
        x.put(1, 0, 0, 1).is(0);
        x.left(0, 0, 0).is(1);
        x.left(1, 0, 0).is(100000);
        x.tick(1).is(1);
        x.tick(99998).is(0);
        x.get(1, 0, 0).is(1);
        x.tick(1).is(1);
        x.get(1, 0, 0).is(NONE);
        x.setting(0, 100000).is(1);
        x.settingAll(1, 1).is(100000);
    }

    private static void keys() {
        CHECK.part("KEYS are 0 .. 99");
        Asked x = of(10, 0);
        for (int k = 0; k < 100; k++) {
            x.put(0, k, 0, k).is(0);
        }
        for (int k = 0; k < 100; k++) {
            x.get(0, k, 0).is(k);
        }
        int[] ends = {0, 99};
        for (int k : ends) {
            x.add(1, k, 7).is(1);
            x.at(1, k, 0).is(7);
            x.shown(0, k).is(1);
            x.left(0, k, 0).is(10);
            x.place(0, k, 0).is(k);
            x.remove(0, k, 0).is(1);
            x.clear(1, k).is(1);
        }
        for (int k : Asked.NO_KEYS) {
            x.put(0, k, 0, 1).is(BAD);
            x.get(0, k, 0).is(BAD);
            x.remove(0, k, 0).is(BAD);
            x.add(1, k, 1).is(BAD);
            x.at(1, k, 0).is(BAD);
            x.clear(0, k).is(BAD);
            x.clear(1, k).is(BAD);
            x.shown(0, k).is(BAD);
            x.over(1, k).is(BAD);
            x.left(0, k, 0).is(BAD);
            x.left(1, k, 0).is(BAD);
            x.place(0, k, 0).is(BAD);
            x.place(1, k, 0).is(BAD);
        }
        x.count(1).is(98);
    }

    private static void members() {
        CHECK.part("MEMBERS 0 .. 9");
        Asked x = of(10, 0);
        for (int m = 0; m < 10; m++) {
            x.put(0, 5, m, 50 + m).is(0);
        }
        for (int m = 0; m < 10; m++) {
            x.get(0, 5, m).is(50 + m);
            x.left(0, 5, m).is(10);
            x.place(0, 5, m).is(m);
        }
        for (int m : Asked.NO_MEMBERS) {
            x.put(0, 5, m, 1).is(BAD);
            x.get(0, 5, m).is(BAD);
            x.remove(0, 5, m).is(BAD);
            x.left(0, 5, m).is(BAD);
            x.place(0, 5, m).is(BAD);
        }
        x.put(0, 4, 9, 1).is(0);
        x.put(0, 6, 0, 1).is(0);
        x.shown(0, 5).is(10);
        x.remove(0, 5, 9).is(1);
        x.remove(0, 5, 0).is(1);
        x.count(1).is(10);
    }

    private static void places() {
        twoHundredPlaces();
        memberOfAList();
        leastFreePlace();
        orderOfAList();
    }

    private static void twoHundredPlaces() {
        CHECK.part("ENTRIES lie in PLACES 0 .. 199");
        Asked x = of(10, 0);
        for (int n = 0; n < 100; n++) {
            x.put(0, n, 9, n).is(0);
            x.add(1, n / 50, n).is(n % 50 + 1);
        }
        x.count(1).is(200);
        for (int n = 0; n < 100; n++) {
            x.place(0, n, 9).is(2 * n);
            x.place(1, n / 50, n % 50).is(2 * n + 1);
        }
        x.put(0, 0, 0, 1).is(FULL);
        x.add(1, 0, 1).is(FULL);
        x.count(1).is(200);
        x.place(1, 1, 49).is(199);
    }

    private static void memberOfAList() {
        CHECK.part("MEMBER (0 in a LIST)");
        Asked x = of(5, 0);
        for (int n = 0; n < 3; n++) {
            x.add(1, 7, 70 + n).is(n + 1);
        }
        x.tick(5).is(3);
        x.sweep(3).is(3);
        for (int n = 0; n < 3; n++) {
            x.rowIs(n, 1, 7, 0, 70 + n, 5, 5);
        }
    }

    private static void leastFreePlace() {
        CHECK.part("A new one comes into the least free PLACE");
        Asked x = of(10, 0);
        for (int n = 0; n < 6; n++) {
            x.put(0, n, 0, n).is(0);
            x.place(0, n, 0).is(n);
        }
        x.remove(0, 4, 0).is(1);
        x.remove(0, 1, 0).is(1);
        x.clear(0, 2).is(1);
        x.add(1, 0, 7).is(1);
        x.place(1, 0, 0).is(1);
        x.put(0, 50, 5, 8).is(0);
        x.place(0, 50, 5).is(2);
        x.put(0, 51, 5, 8).is(0);
        x.place(0, 51, 5).is(4);
        x.put(0, 52, 5, 8).is(0);
        x.place(0, 52, 5).is(6);
        x.tick(10).is(7);
        x.add(1, 0, 9).is(1);
        x.place(1, 0, 1).is(7);
        x.sweep(1).is(1);
        x.add(1, 0, 9).is(2);
        x.place(1, 0, 2).is(0);
    }

    private static void orderOfAList() {
        CHECK.part("In a LIST entries are in the order in which they came");
        Asked x = of(10, 0);
        x.put(0, 0, 0, 1).is(0);
        x.put(0, 0, 1, 1).is(0);
        x.add(1, 3, 30).is(1);
        x.add(1, 2, 20).is(1);
        x.remove(0, 0, 1).is(1);
        x.add(1, 3, 31).is(2);
        x.remove(0, 0, 0).is(1);
        x.add(1, 3, 32).is(3);
        x.place(1, 3, 0).is(2);
        x.place(1, 3, 1).is(1);
        x.place(1, 3, 2).is(0);
        for (int i = 0; i < 3; i++) {
            x.at(1, 3, i).is(30 + i);
        }
    }

    private static void ends() {
        overAtTheEnd(0);
        overAtTheEnd(1);
        overForWhoWrites();
        latestEnds();
    }

    private static void move(Asked x, int clock, int from, int to, int due) {
        if (clock == 0) {
            x.tick(to - from).is(due);
        } else {
            x.watermark(to).is(due);
        }
    }

    private static void overAtTheEnd(int clock) {
        CHECK.part("One is over, when its state's clock is at its END or above; else it is SHOWN (clock " + clock + ")");
        Asked x = new Asked(CHECK);
        x.state(0, clock, 10, 0).is(0);
        x.state(1, clock, 10, 0).is(1);
        x.put(0, 3, 3, 5).is(0);
        x.add(1, 4, 6).is(1);
        move(x, clock, 0, 9, 0);
        x.get(0, 3, 3).is(5);
        x.at(1, 4, 0).is(6);
        x.shown(0, 3).is(1);
        x.over(0, 3).is(0);
        x.left(0, 3, 3).is(1);
        x.left(1, 4, 0).is(1);
        x.next(0).is(10);
        x.count(2).is(2);
        x.sweep(200).is(0);
        x.mark(0).is(2);
        move(x, clock, 9, 10, 2);
        theTwoAreOver(x);
        move(x, clock, 10, 11, 0);
        theTwoAreOver(x);
        x.sweep(200).is(2);
    }

    private static void theTwoAreOver(Asked x) {
        x.get(0, 3, 3).is(NONE);
        x.at(1, 4, 0).is(NONE);
        x.shown(0, 3).is(0);
        x.over(0, 3).is(1);
        x.shown(1, 4).is(0);
        x.over(1, 4).is(1);
        x.left(0, 3, 3).is(NONE);
        x.left(1, 4, 0).is(NONE);
        x.next(0).is(NONE);
        x.next(1).is(NONE);
        x.count(1).is(2);
        x.count(2).is(0);
        x.mark(0).is(0);
    }

    private static void overForWhoWrites() {
        CHECK.part("One is over .. (what put, remove, add and clear answer)");
        Asked x = of(10, 0);
        for (int m = 0; m < 4; m++) {
            x.put(0, 0, m, m).is(0);
        }
        x.put(0, 1, 0, 1).is(0);
        x.add(1, 0, 1).is(1);
        x.tick(9).is(0);
        x.put(0, 0, 0, 9).is(1);
        x.remove(0, 0, 1).is(1);
        x.clear(0, 1).is(1);
        x.add(1, 0, 2).is(2);
        x.put(0, 1, 0, 1).is(0);
        x.tick(1).is(3);
        x.put(0, 0, 2, 9).is(0);
        x.remove(0, 0, 3).is(0);
        x.clear(1, 0).is(1);
        x.tick(9).is(2);
        x.add(1, 0, 3).is(1);
        x.clear(0, 1).is(0);
    }

    private static void latestEnds() {
        CHECK.part("an END (the STAMP and a SPAN) (at the last time of all)");
        Asked x = new Asked(CHECK);
        x.state(0, 1, 100000, 1).is(0);
        x.put(0, 0, 0, 1).is(0);
        x.watermark(99999).is(0);
        x.mark(0).is(1);
        x.watermark(1000000000).is(1);
        x.put(0, 0, 0, 2).is(0);
        x.next(0).is(1000100000);
        x.left(0, 0, 0).is(100000);
        x.get(0, 0, 0).is(2);
        x.settingAll(0, 1).is(100000);
        x.next(0).is(1000000001);
        x.settingAll(0, 100000).is(1);
        x.next(0).is(1000100000);
        x.restore(0).is(1);
        x.next(0).is(1000000001);
        x.watermark(1000000000).is(0);
        x.get(0, 0, 0).is(1);
        x.sweep(200).is(0);
    }

    private static void stamps() {
        written();
        readByWayOne();
        notRead();
        overIsNotStamped();
        notReadByWayZero();
    }

    private static void written() {
        CHECK.part("Written is one: its STAMP is its state's clock then, its END that and the state's SPAN");
        Asked x = new Asked(CHECK);
        x.state(0, 0, 10, 0).is(0);
        x.state(1, 1, 20, 0).is(1);
        x.tick(3).is(0);
        x.watermark(7).is(0);
        x.put(0, 0, 0, 1).is(0);
        x.next(0).is(13);
        x.add(1, 0, 1).is(1);
        x.next(1).is(27);
        x.tick(9).is(0);
        x.put(0, 0, 0, 2).is(1);
        x.next(0).is(22);
        x.setting(0, 5).is(10);
        x.put(0, 0, 0, 3).is(1);
        x.next(0).is(17);
        x.tick(5).is(1);
        x.put(0, 0, 0, 4).is(0);
        x.next(0).is(22);
        x.left(0, 0, 0).is(5);
    }

    private static void readByWayOne() {
        CHECK.part("With way 1 one that is SHOWN is stamped likewise, when it is read (by get(), at())");
        Asked x = of(10, 1);
        x.put(0, 0, 0, 1).is(0);
        x.put(0, 0, 1, 2).is(0);
        for (int n = 0; n < 3; n++) {
            x.add(1, 0, n).is(n + 1);
        }
        x.tick(9).is(0);
        x.get(0, 0, 0).is(1);
        x.at(1, 0, 1).is(1);
        x.left(0, 0, 0).is(10);
        x.left(0, 0, 1).is(1);
        x.left(1, 0, 0).is(1);
        x.left(1, 0, 1).is(10);
        x.left(1, 0, 2).is(1);
        x.setting(0, 3).is(10);
        x.get(0, 0, 0).is(1);
        x.left(0, 0, 0).is(3);
        x.tick(1).is(3);
        x.at(1, 0, 0).is(1);
        x.next(1).is(20);
        x.settingAll(0, 4).is(3);
        x.next(0).is(13);
        x.tick(2).is(0);
        x.get(0, 0, 0).is(1);
        x.next(0).is(16);
    }

    private static void notRead() {
        CHECK.part("when it is read (by get(), at(), and by no other call)");
        Asked x = of(10, 1);
        x.put(0, 0, 0, 1).is(0);
        x.add(1, 0, 1).is(1);
        x.tick(4).is(0);
        x.shown(0, 0).is(1);
        x.over(1, 0).is(0);
        x.left(0, 0, 0).is(6);
        x.left(1, 0, 0).is(6);
        x.place(0, 0, 0).is(0);
        x.place(1, 0, 0).is(1);
        x.mark(0).is(2);
        x.count(2).is(2);
        x.sweep(200).is(0);
        x.add(1, 0, 2).is(2);
        x.setting(0, 10).is(10);
        x.next(0).is(10);
        x.next(1).is(10);
        x.tick(6).is(2);
    }

    private static void overIsNotStamped() {
        CHECK.part("With way 1 one that is SHOWN is stamped (one that is over is not)");
        Asked x = of(10, 1);
        x.put(0, 0, 0, 1).is(0);
        x.add(1, 0, 2).is(1);
        x.tick(10).is(2);
        x.get(0, 0, 0).is(NONE);
        x.at(1, 0, 0).is(NONE);
        x.get(0, 0, 0).is(NONE);
        x.over(0, 0).is(1);
        x.over(1, 0).is(1);
        x.tick(3).is(0);
        x.sweep(2).is(2);
        x.rowIs(0, 0, 0, 0, 1, 10, 13);
        x.rowIs(1, 1, 0, 0, 2, 10, 13);
    }

    private static void notReadByWayZero() {
        CHECK.part("With way 1 (with way 0 what is read is not stamped)");
        Asked x = of(10, 0);
        x.put(0, 0, 0, 1).is(0);
        x.add(1, 0, 2).is(1);
        x.tick(9).is(0);
        x.get(0, 0, 0).is(1);
        x.at(1, 0, 0).is(2);
        x.tick(1).is(2);
    }

    private static void rows() {
        toldBySweep();
        toldByPut();
        toldByNothingElse();
        notTold();
        rowsUpTo150();
        rowsTwiceRound();
    }

    private static void toldBySweep() {
        CHECK.part("What is over goes, when a SWEEP comes to it; then, and not before, it is TOLD");
        Asked x = of(10, 0);
        x.put(0, 42, 7, -5).is(0);
        x.add(1, 99, Asked.MOST).is(1);
        x.tick(12).is(2);
        x.count(4).is(0);
        x.row(0, 0).is(NONE);
        x.count(1).is(2);
        x.sweep(1).is(1);
        x.count(4).is(1);
        x.count(1).is(1);
        x.place(0, 42, 7).is(NONE);
        x.place(1, 99, 0).is(1);
        x.rowIs(0, 0, 42, 7, -5, 10, 12);
        x.tick(3).is(0);
        x.sweep(1).is(1);
        x.rowIs(1, 1, 99, 0, Asked.MOST, 10, 15);
        x.count(1).is(0);
        x.sweep(200).is(0);
        x.count(4).is(2);
    }

    private static void toldByPut() {
        CHECK.part("or when another number is written for its KEY and MEMBER (form 0)");
        Asked x = of(10, 0);
        x.put(0, 3, 4, 7).is(0);
        x.put(0, 3, 5, 8).is(0);
        x.tick(10).is(2);
        x.put(0, 3, 6, 9).is(0);
        x.count(4).is(0);
        x.put(0, 3, 4, 7).is(0);
        x.count(4).is(1);
        x.rowIs(0, 0, 3, 4, 7, 10, 10);
        x.place(0, 3, 4).is(0);
        x.count(1).is(3);
        x.sweep(200).is(1);
        x.rowIs(1, 0, 3, 5, 8, 10, 10);
        x.get(0, 3, 4).is(7);
        x.count(4).is(2);
    }

    private static void toldByNothingElse() {
        CHECK.part("then, and not before, it is TOLD (by no other call)");
        Asked x = of(10, 1);
        x.put(0, 0, 0, 1).is(0);
        x.add(1, 0, 2).is(1);
        x.tick(10).is(2);
        x.get(0, 0, 0).is(NONE);
        x.at(1, 0, 0).is(NONE);
        x.add(1, 0, 3).is(1);
        x.shown(0, 0).is(0);
        x.over(0, 0).is(1);
        x.left(0, 0, 0).is(NONE);
        x.watermark(50).is(0);
        x.tick(1).is(0);
        x.settingAll(0, 20).is(10);
        x.settingAll(1, 20).is(10);
        x.mark(0).is(1);
        x.place(0, 0, 0).is(0);
        x.next(0).is(NONE);
        x.count(4).is(0);
        x.count(1).is(3);
    }

    private static void notTold() {
        CHECK.part("What is removed, or written over while it is SHOWN, is not TOLD");
        Asked x = of(10, 0);
        for (int m = 0; m < 4; m++) {
            x.put(0, 0, m, m).is(0);
        }
        x.add(1, 0, 1).is(1);
        x.add(1, 1, 1).is(1);
        x.tick(9).is(0);
        x.put(0, 0, 0, 9).is(1);
        x.remove(0, 0, 1).is(1);
        x.clear(1, 1).is(1);
        x.tick(1).is(3);
        x.remove(0, 0, 2).is(0);
        x.clear(1, 0).is(0);
        x.count(4).is(0);
        x.clear(0, 0).is(1);
        x.count(4).is(0);
        x.tick(100).is(0);
        x.sweep(200).is(0);
        x.count(3).is(0);
        x.count(4).is(0);
    }

    private static void rowsUpTo150() {
        CHECK.part("ROWS are kept up to 150; then the first one goes, when another one comes");
        Asked x = of(1, 0);
        x.fill(0);
        x.tick(1).is(200);
        x.sweep(149).is(149);
        x.count(3).is(149);
        x.row(148, 3).is(148);
        x.row(149, 3).is(NONE);
        x.sweep(1).is(1);
        x.count(3).is(150);
        x.count(4).is(150);
        x.row(0, 3).is(0);
        x.row(149, 3).is(149);
        x.row(150, 3).is(NONE);
        x.put(0, 75, 0, 999).is(0);
        x.count(3).is(150);
        x.count(4).is(151);
        x.row(0, 3).is(1);
        x.row(148, 3).is(149);
        x.rowIs(149, 0, 75, 0, 150, 1, 1);
        x.row(150, 3).is(NONE);
        x.sweep(2).is(1);
        x.row(0, 3).is(2);
        x.row(149, 3).is(151);
    }

    private static void rowsTwiceRound() {
        CHECK.part("ROWS are kept up to 150 (more than 300 came)");
        Asked x = of(1, 0);
        x.fill(0);
        x.mark(0).is(200);
        for (int time = 1; time <= 3; time++) {
            x.tick(1).is(200);
            x.sweep(200).is(200);
            x.count(3).is(150);
            x.count(4).is(200 * time);
            for (int i = 0; i < 150; i += 49) {
                int n = i + 50;
                x.rowIs(i, 0, n / 2, n % 2, n, time, time);
            }
            x.restore(0).is(200);
        }
        x.row(149, 5).is(3);
        x.row(150, 5).is(NONE);
    }

    private static void sweeps() {
        sweepsLookAtN();
        sweepsGoRound();
        sweepOfAllFromTheMiddle();
    }

    private static void sweepsLookAtN() {
        CHECK.part("A SWEEP of n looks at n PLACES, one behind the other, from where the one before ended (0 at first)");
        Asked x = of(10, 0);
        for (int k = 0; k < 8; k++) {
            x.put(0, k, 0, k).is(0);
        }
        x.count(7).is(0);
        x.tick(5).is(0);
        x.put(0, 1, 0, 11).is(1);
        x.tick(5).is(7);
        x.sweep(3).is(2);
        x.count(7).is(3);
        x.place(0, 1, 0).is(1);
        x.place(0, 3, 0).is(3);
        x.row(0, 3).is(0);
        x.row(1, 3).is(2);
        x.add(1, 0, 50).is(1);
        x.place(1, 0, 0).is(0);
        x.tick(10).is(2);
        x.sweep(1).is(1);
        x.row(2, 3).is(3);
        x.count(7).is(4);
        x.sweep(3).is(3);
        x.place(0, 7, 0).is(7);
        x.count(7).is(7);
        x.sweep(1).is(1);
        x.sweep(192).is(0);
        x.count(7).is(0);
        x.place(1, 0, 0).is(0);
        x.sweep(1).is(1);
        x.row(7, 3).is(50);
        x.place(0, 1, 0).is(1);
    }

    private static void sweepsGoRound() {
        CHECK.part("behind 199 comes 0");
        Asked x = of(10, 0);
        x.fill(0);
        x.sweep(199).is(0);
        x.count(7).is(199);
        x.tick(10).is(200);
        x.sweep(1).is(1);
        x.count(7).is(0);
        x.row(0, 3).is(199);
        x.sweep(1).is(1);
        x.count(7).is(1);
        x.row(1, 3).is(0);
        x.sweep(197).is(197);
        x.count(7).is(198);
        x.put(0, 0, 0, 500).is(0);
        x.put(0, 1, 0, 501).is(0);
        x.place(0, 0, 0).is(0);
        x.place(0, 1, 0).is(1);
        x.tick(10).is(2);
        x.sweep(3).is(2);
        x.count(7).is(1);
        x.row(148, 3).is(198);
        x.row(149, 3).is(500);
        x.over(0, 1).is(1);
    }

    private static void sweepOfAllFromTheMiddle() {
        CHECK.part("behind 199 comes 0 (a SWEEP of 200)");
        Asked x = of(10, 0);
        x.sweep(100).is(0);
        x.fill(0);
        x.tick(10).is(200);
        x.sweep(200).is(200);
        x.count(7).is(100);
        x.count(1).is(0);
        x.count(4).is(200);
        x.row(0, 3).is(150);
        x.row(49, 3).is(199);
        x.row(50, 3).is(0);
        x.row(149, 3).is(99);
    }

    private static void settings() {
        fromNowOn();
        withAll();
        withAllAtTheEnd();
        withAllOverStaysOver();
        withAllByStamp();
        withAllOfAllPlaces();
    }

    private static void fromNowOn() {
        CHECK.part("A SETTING gives a state another SPAN, from now on");
        Asked x = of(10, 0);
        x.put(0, 0, 0, 1).is(0);
        x.add(1, 0, 1).is(1);
        x.tick(5).is(0);
        x.setting(0, 1).is(10);
        x.setting(1, 100000).is(10);
        x.left(0, 0, 0).is(5);
        x.left(1, 0, 0).is(5);
        x.put(0, 0, 1, 1).is(0);
        x.left(0, 0, 1).is(1);
        x.add(1, 0, 1).is(2);
        x.left(1, 0, 1).is(100000);
        x.put(0, 0, 0, 1).is(1);
        x.left(0, 0, 0).is(1);
        x.setting(0, 1).is(1);
        x.left(0, 0, 0).is(1);
    }

    private static void withAll() {
        CHECK.part("with all its ENTRIES that are SHOWN have their STAMP and this SPAN as their END");
        Asked x = of(10, 0);
        x.put(0, 0, 0, 1).is(0);
        x.tick(2).is(0);
        x.put(0, 1, 1, 1).is(0);
        x.add(1, 0, 1).is(1);
        x.tick(2).is(0);
        x.put(0, 2, 2, 1).is(0);
        x.settingAll(0, 6).is(10);
        x.left(0, 0, 0).is(2);
        x.left(0, 1, 1).is(4);
        x.left(0, 2, 2).is(6);
        x.left(1, 0, 0).is(8);
        x.setting(1, 10).is(10);
        x.settingAll(0, 100000).is(6);
        x.left(0, 0, 0).is(99996);
        x.left(0, 2, 2).is(100000);
        x.put(0, 3, 3, 1).is(0);
        x.left(0, 3, 3).is(100000);
    }

    private static void withAllAtTheEnd() {
        CHECK.part("(some may be over then)");
        Asked x = of(10, 0);
        x.put(0, 0, 0, 1).is(0);
        x.tick(1).is(0);
        x.put(0, 0, 1, 2).is(0);
        x.tick(4).is(0);
        x.settingAll(0, 5).is(10);
        x.get(0, 0, 0).is(NONE);
        x.left(0, 0, 1).is(1);
        x.over(0, 0).is(1);
        x.shown(0, 0).is(1);
        x.count(4).is(0);
        x.tick(1).is(1);
        x.sweep(1).is(1);
        x.rowIs(0, 0, 0, 0, 1, 5, 6);
    }

    private static void withAllOverStaysOver() {
        CHECK.part("with all its ENTRIES that are SHOWN (what is over stays over, its END as it was)");
        Asked x = of(10, 0);
        x.put(0, 0, 0, 1).is(0);
        x.tick(10).is(1);
        x.put(0, 0, 1, 2).is(0);
        x.settingAll(0, 100000).is(10);
        x.get(0, 0, 0).is(NONE);
        x.left(0, 0, 1).is(100000);
        x.tick(1).is(0);
        x.settingAll(0, 1).is(100000);
        x.get(0, 0, 1).is(NONE);
        x.settingAll(0, 50).is(1);
        x.get(0, 0, 1).is(NONE);
        x.sweep(2).is(2);
        x.rowIs(0, 0, 0, 0, 1, 10, 11);
        x.rowIs(1, 0, 0, 1, 2, 11, 11);
    }

    private static void withAllByStamp() {
        CHECK.part("have their STAMP (of the last writing, reading or RESTORING) and this SPAN");
        Asked x = of(10, 1);
        x.put(0, 0, 0, 1).is(0);
        x.put(0, 0, 1, 1).is(0);
        x.put(0, 0, 2, 1).is(0);
        x.tick(4).is(0);
        x.get(0, 0, 0).is(1);
        x.put(0, 0, 1, 2).is(1);
        x.mark(0).is(3);
        x.settingAll(0, 30).is(10);
        x.left(0, 0, 0).is(30);
        x.left(0, 0, 1).is(30);
        x.left(0, 0, 2).is(26);
        x.tick(3).is(0);
        x.restore(0).is(3);
        x.left(0, 0, 2).is(6);
        x.tick(1).is(0);
        x.settingAll(0, 20).is(30);
        x.left(0, 0, 0).is(19);
        x.left(0, 0, 2).is(19);
    }

    private static void withAllOfAllPlaces() {
        CHECK.part("with all its ENTRIES that are SHOWN (all PLACES)");
        Asked x = of(10, 0);
        x.fill(0);
        x.tick(9).is(0);
        x.put(0, 99, 1, 1).is(1);
        x.settingAll(0, 11).is(10);
        x.left(0, 0, 0).is(2);
        x.left(0, 99, 0).is(2);
        x.left(0, 99, 1).is(11);
        x.settingAll(0, 9).is(11);
        x.count(2).is(1);
        x.tick(8).is(0);
        x.tick(1).is(1);
        x.settingAll(0, 100000).is(9);
        x.count(2).is(0);
        x.sweep(200).is(200);
    }

    private static void marks() {
        threeMarks();
        marksKeepTheShown();
        marksOfNothing();
        marksOfAllPlaces();
        orderOfMarks();
        listsInMarks();
    }

    private static void threeMarks() {
        CHECK.part("A MARK (3)");
        Asked x = of(10, 0);
        for (int m = 0; m < 3; m++) {
            x.restore(m).is(NO);
            x.put(0, m, m, m).is(0);
            x.mark(m).is(m + 1);
        }
        for (int m : Asked.NO_MARKS) {
            x.mark(m).is(BAD);
            x.restore(m).is(BAD);
        }
        x.restore(0).is(1);
        x.get(0, 0, 0).is(0);
        x.get(0, 1, 1).is(NONE);
        x.restore(2).is(3);
        x.get(0, 2, 2).is(2);
        x.restore(1).is(2);
        x.get(0, 1, 1).is(1);
        x.get(0, 2, 2).is(NONE);
    }

    private static void marksKeepTheShown() {
        CHECK.part("keeps all ENTRIES that are SHOWN, with what is left of each (END less its clock)");
        Asked x = new Asked(CHECK);
        x.state(0, 0, 10, 0).is(0);
        x.state(0, 1, 20, 0).is(1);
        x.put(0, 0, 0, 1).is(0);
        x.put(1, 0, 0, 2).is(0);
        x.tick(1).is(0);
        x.put(0, 0, 1, 3).is(0);
        x.watermark(19).is(0);
        x.tick(9).is(1);
        x.mark(0).is(2);
        x.tick(1).is(1);
        x.mark(1).is(1);
        x.tick(50).is(0);
        x.watermark(500).is(1);
        x.restore(0).is(2);
        x.get(0, 0, 0).is(NONE);
        x.place(0, 0, 0).is(NONE);
        x.left(0, 0, 1).is(1);
        x.left(1, 0, 0).is(1);
        x.watermark(501).is(1);
        x.tick(1).is(1);
        x.restore(1).is(1);
        x.left(1, 0, 0).is(1);
    }

    private static void marksOfNothing() {
        CHECK.part("keeps all ENTRIES that are SHOWN (none is)");
        Asked x = of(10, 0);
        x.mark(0).is(0);
        x.put(0, 0, 0, 1).is(0);
        x.tick(10).is(1);
        x.mark(1).is(0);
        x.restore(2).is(NO);
        x.restore(0).is(0);
        x.count(1).is(0);
        x.put(0, 0, 0, 1).is(0);
        x.restore(1).is(0);
        x.count(1).is(0);
        x.count(4).is(0);
    }

    private static void marksOfAllPlaces() {
        CHECK.part("keeps all ENTRIES that are SHOWN (all PLACES, in each MARK)");
        Asked x = of(10, 0);
        x.fill(0);
        for (int m = 0; m < 3; m++) {
            x.put(0, 99, 1, 1000 + m).is(1);
            x.put(0, 0, 0, 2000 + m).is(1);
            x.mark(m).is(200);
        }
        x.tick(10).is(200);
        for (int m = 2; m >= 0; m--) {
            x.restore(m).is(200);
            x.get(0, 99, 1).is(1000 + m);
            x.get(0, 0, 0).is(2000 + m);
            x.place(0, 0, 0).is(0);
            x.place(0, 0, 1).is(1);
            x.place(0, 99, 1).is(199);
            x.put(0, 50, 2, 1).is(FULL);
        }
        x.count(4).is(0);
    }

    private static void orderOfMarks() {
        CHECK.part("in the order of their states, of these of KEYS, of these of MEMBERS, in a LIST as it stands");
        Asked x = new Asked(CHECK);
        x.state(1, 0, 100, 0).is(0);
        x.state(0, 1, 10, 0).is(1);
        x.state(0, 0, 50, 0).is(2);
        x.put(2, 0, 0, 200).is(0);
        x.put(1, 99, 9, 999).is(0);
        x.put(1, 99, 0, 990).is(0);
        x.put(1, 10, 0, 100).is(0);
        x.put(1, 9, 9, 99).is(0);
        x.add(0, 99, 3).is(1);
        x.add(0, 0, 2).is(1);
        x.add(0, 0, 1).is(2);
        x.mark(0).is(8);
        x.restore(0).is(8);
        x.place(0, 0, 0).is(0);
        x.at(0, 0, 0).is(2);
        x.place(0, 0, 1).is(1);
        x.at(0, 0, 1).is(1);
        x.place(0, 99, 0).is(2);
        x.place(1, 9, 9).is(3);
        x.place(1, 10, 0).is(4);
        x.place(1, 99, 0).is(5);
        x.place(1, 99, 9).is(6);
        x.place(2, 0, 0).is(7);
        x.get(1, 10, 0).is(100);
        x.get(1, 99, 0).is(990);
        x.at(0, 99, 0).is(3);
    }

    private static void listsInMarks() {
        CHECK.part("in a LIST as it stands (its first and middle ones over, its PLACES not in its order)");
        Asked x = of(10, 1);
        x.put(0, 0, 0, 1).is(0);
        for (int n = 0; n < 5; n++) {
            x.add(1, 0, n).is(n + 1);
        }
        x.remove(0, 0, 0).is(1);
        x.add(1, 0, 5).is(6);
        x.tick(9).is(0);
        x.at(1, 0, 5).is(5);
        x.at(1, 0, 1).is(1);
        x.at(1, 0, 3).is(3);
        x.tick(1).is(3);
        x.mark(0).is(3);
        x.restore(0).is(3);
        int[] stays = {1, 3, 5};
        for (int i = 0; i < 3; i++) {
            x.place(1, 0, i).is(i);
            x.left(1, 0, i).is(9);
            x.at(1, 0, i).is(stays[i]);
        }
        x.add(1, 0, 6).is(4);
        x.at(1, 0, 3).is(6);
        x.place(1, 0, 3).is(3);
    }

    private static void restores() {
        allGo();
        placesFromZero();
        clockOfNow();
        sweepFromZero();
        whatStays();
        statesThatItKnows();
        marksStay();
    }

    private static void allGo() {
        CHECK.part("RESTORED: all ENTRIES go (none is TOLD)");
        Asked x = of(10, 0);
        x.put(0, 0, 0, 1).is(0);
        x.mark(0).is(1);
        x.put(0, 1, 1, 2).is(0);
        x.add(1, 1, 3).is(1);
        x.tick(10).is(3);
        x.put(0, 2, 2, 4).is(0);
        x.add(1, 1, 5).is(1);
        x.restore(0).is(1);
        x.count(1).is(1);
        x.count(2).is(1);
        x.count(3).is(0);
        x.count(4).is(0);
        x.place(0, 1, 1).is(NONE);
        x.place(0, 2, 2).is(NONE);
        x.place(1, 1, 0).is(NONE);
        x.sweep(200).is(0);
        x.remove(0, 1, 1).is(NO);
        x.add(1, 1, 6).is(1);
    }

    private static void placesFromZero() {
        CHECK.part("those of the MARK come, in this order, into PLACES 0, 1, ..");
        Asked x = of(10, 0);
        for (int k = 0; k < 6; k++) {
            x.put(0, k, 0, k).is(0);
        }
        x.remove(0, 0, 0).is(1);
        x.remove(0, 2, 0).is(1);
        x.mark(0).is(4);
        x.restore(0).is(4);
        x.place(0, 1, 0).is(0);
        x.place(0, 3, 0).is(1);
        x.place(0, 4, 0).is(2);
        x.place(0, 5, 0).is(3);
        x.put(0, 0, 0, 9).is(0);
        x.place(0, 0, 0).is(4);
    }

    private static void clockOfNow() {
        CHECK.part("each with its state's clock now as its STAMP, and that and what was left as its END");
        Asked x = new Asked(CHECK);
        x.state(0, 0, 10, 0).is(0);
        x.state(1, 1, 20, 0).is(1);
        x.put(0, 0, 0, 1).is(0);
        x.add(1, 0, 2).is(1);
        x.tick(4).is(0);
        x.watermark(5).is(0);
        x.mark(0).is(2);
        x.restore(0).is(2);
        x.next(0).is(10);
        x.next(1).is(20);
        x.tick(100).is(1);
        x.watermark(1000).is(1);
        x.setting(0, 99).is(10);
        x.restore(0).is(2);
        x.next(0).is(110);
        x.next(1).is(1015);
        x.settingAll(0, 3).is(99);
        x.next(0).is(107);
        x.settingAll(1, 30).is(20);
        x.next(1).is(1030);
    }

    private static void sweepFromZero() {
        CHECK.part("the next SWEEP begins at 0");
        Asked x = of(10, 0);
        x.put(0, 0, 0, 1).is(0);
        x.mark(0).is(1);
        x.sweep(57).is(0);
        x.count(7).is(57);
        x.restore(1).is(NO);
        x.restore(3).is(BAD);
        x.count(7).is(57);
        x.mark(1).is(1);
        x.count(7).is(57);
        x.restore(0).is(1);
        x.count(7).is(0);
        x.tick(10).is(1);
        x.sweep(1).is(1);
        x.count(7).is(1);
    }

    private static void whatStays() {
        CHECK.part("STATES, clocks, ROWS stay");
        Asked x = of(10, 0);
        x.put(0, 0, 0, 1).is(0);
        x.mark(0).is(1);
        x.state(0, 1, 5, 1).is(2);
        x.put(2, 7, 7, 70).is(0);
        x.setting(0, 33).is(10);
        x.watermark(6).is(1);
        x.tick(2).is(0);
        x.sweep(200).is(1);
        x.restore(0).is(1);
        x.count(0).is(3);
        x.setting(0, 44).is(33);
        x.setting(2, 6).is(5);
        x.count(5).is(2);
        x.count(6).is(6);
        x.count(3).is(1);
        x.count(4).is(1);
        x.rowIs(0, 2, 7, 7, 70, 5, 2);
        x.watermark(5).is(NO);
    }

    private static void statesThatItKnows() {
        CHECK.part("a MARK holds just for the STATES that it knows");
        Asked x = new Asked(CHECK);
        x.mark(0).is(0);
        x.state(0, 0, 10, 0).is(0);
        x.put(0, 0, 0, 1).is(0);
        x.mark(1).is(1);
        x.state(1, 0, 10, 0).is(1);
        x.add(1, 0, 2).is(1);
        x.restore(1).is(1);
        x.count(0).is(2);
        x.at(1, 0, 0).is(NONE);
        x.place(1, 0, 0).is(NONE);
        x.get(0, 0, 0).is(1);
        x.add(1, 0, 3).is(1);
        x.restore(0).is(0);
        x.count(0).is(2);
        x.count(1).is(0);
        x.put(0, 0, 0, 4).is(0);
        x.add(1, 0, 5).is(1);
    }

    private static void marksStay() {
        CHECK.part("A MARK .. RESTORED (it holds what it kept, however often)");
        Asked x = of(10, 1);
        x.add(1, 0, 1).is(1);
        x.add(1, 0, 2).is(2);
        x.put(0, 0, 0, 3).is(0);
        x.tick(4).is(0);
        x.mark(0).is(3);
        for (int time = 0; time < 3; time++) {
            x.restore(0).is(3);
            x.left(0, 0, 0).is(6);
            x.get(0, 0, 0).is(3);
            x.put(0, 0, 0, 4).is(1);
            x.at(1, 0, 0).is(1);
            x.add(1, 0, 9).is(3);
            x.tick(10).is(4);
            x.clear(1, 0).is(0);
        }
        x.restore(0).is(3);
        x.at(1, 0, 1).is(2);
        x.at(1, 0, 2).is(NONE);
    }
}
