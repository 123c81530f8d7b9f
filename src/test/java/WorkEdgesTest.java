/** Boundary cases of promise 6, work, and of what 'Terms' says of it. */
public final class WorkEdgesTest {
    private static final int LAST = Check.LAST_NODE;

    public static void main(String[] args) {
        nothingTouched();
        nothingTouchedBehindRefusals();
        nothingButRings();
        oneRingOfManyNodes();
        leastByNumbersAtBothEnds();
        leastOfManyReady();
        leastOfThoseThatBecomeReady();
        onlyReadsThatAreToBeWorkedOutCount();
        theOthersAreFoundRinged();
        noNodeIsTouchedBehindIt();
        chainOfManyNodes();
        manyWorks();
        Check.end();
    }

    private static void nothingTouched() {
        Check.sentence("how many nodes were worked out (nothing is touched)");
        HangOrder x = new HangOrder();
        expectNothing("new", x);
        x.link(0, LAST);
        x.link(3, 3);
        x.work();
        expectNothing("a second work", x);
        expectNothing("a third work", x);
        Check.same("a ring stays ringed", x.ringed(3), true);
    }

    private static void nothingTouchedBehindRefusals() {
        Check.sentence("how many nodes were worked out (refused and false calls touch nothing)");
        HangOrder x = new HangOrder();
        x.link(0, LAST);
        x.work();
        Check.refusesArgument("touch(16384)", () -> x.touch(LAST + 1));
        Check.refusesArgument("clear(-1)", () -> x.clear(-1));
        Check.refusesArgument("link(0, -1)", () -> x.link(0, -1));
        Check.refusesArgument("unlink(0, 16384)", () -> x.unlink(0, LAST + 1));
        x.link(0, LAST);
        x.unlink(0, 0);
        Check.order("not changed before the next work", x, 0);
        expectNothing("behind refusals", x);
    }

    private static void expectNothing(String at, HangOrder x) {
        Check.same(at + ": work", x.work(), 0);
        Check.same(at + ": found", x.found(), 0);
        Check.order(at, x);
        Check.same(at + ": worked(-1)", x.worked(-1), HangOrder.NONE);
    }

    private static void nothingButRings() {
        Check.sentence("those of them that aren't ringed are WORKED OUT (there are none)");
        HangOrder x = new HangOrder();
        x.link(0, 0);
        x.link(LAST, LAST);
        x.link(10, 11);
        x.link(11, 10);
        x.touch(11);
        Check.same("work", x.work(), 0);
        Check.order("work", x);
        Check.same("found", x.found(), 4);
        x.touch(0);
        Check.same("work again", x.work(), 0);
        Check.order("work again", x);
        Check.same("found again", x.found(), 1);
    }

    private static void oneRingOfManyNodes() {
        Check.sentence("It is RINGED if it hangs on itself (round 500 nodes)");
        HangOrder x = new HangOrder();
        for (int k = 0; k < 500; k++) {
            x.link(k, (k + 1) % 500);
        }
        Check.same("work", x.work(), 0);
        Check.same("found", x.found(), 500);
        x.unlink(250, 251);
        Check.same("work of the opened ring", x.work(), 500);
        Check.same("its first", x.worked(0), 250);
        Check.same("its last", x.worked(499), 251);
        Check.same("behind its last", x.worked(500), HangOrder.NONE);
        Check.same("found in the opened ring", x.found(), 0);
    }

    private static void leastByNumbersAtBothEnds() {
        Check.sentence("always the least one, by numbers");
        HangOrder x = new HangOrder();
        for (int a : new int[] {LAST, 1, 128, LAST - 1, 0, 127}) {
            x.touch(a);
        }
        Check.same("work", x.work(), 6);
        Check.order("touched in another order", x, 0, 1, 127, 128, LAST - 1, LAST);
        HangOrder y = new HangOrder();
        y.link(0, LAST);
        y.touch(LAST);
        y.touch(1);
        Check.same("work", y.work(), 3);
        Check.order("the least one waits for the greatest", y, 1, LAST, 0);
        y.touch(LAST);
        y.link(LAST, 1);
        Check.same("work", y.work(), 2);
        Check.order("the other way round", y, LAST, 0);
    }

    /** Many orders of touching, as a heap can be right for one of them by chance. */
    private static void leastOfManyReady() {
        Check.sentence("always the least one, by numbers (of up to 250 that are ready)");
        for (int count : new int[] {2, 3, 7, 8, 15, 16, 17, 31, 32, 33, 64, 65, 250}) {
            for (int factor : new int[] {1, 3, 257, LAST}) {
                HangOrder x = new HangOrder();
                for (int k = 0; k < count; k++) {
                    x.touch((k * factor) & LAST);
                }
                Check.same("work of " + count, x.work(), count);
                expectRising(count + " times " + factor, x, count);
            }
        }
    }

    private static void expectRising(String at, HangOrder x, int count) {
        int before = -1;
        for (int k = 0; k < count; k++) {
            int node = x.worked(k);
            Check.same(at + ": rises at " + k, node > before, true);
            before = node;
        }
    }

    private static void leastOfThoseThatBecomeReady() {
        Check.sentence("all of whose nodes that they read, and that are to be worked out, were before");
        HangOrder x = new HangOrder();
        x.link(0, 5);
        x.link(0, 9);
        x.link(1, 9);
        x.link(2, 5);
        x.link(3, 2);
        x.touch(5);
        x.touch(9);
        x.touch(7);
        Check.same("work", x.work(), 7);
        Check.order("5 frees 2, 2 frees 3; 0 waits for both", x, 5, 2, 3, 7, 9, 0, 1);
    }

    private static void onlyReadsThatAreToBeWorkedOutCount() {
        Check.sentence("nodes that they read, and that are to be worked out");
        HangOrder x = new HangOrder();
        x.link(1, 2);
        x.link(1, 3);
        x.link(2, 4);
        x.work();
        x.touch(1);
        Check.same("it need not wait for what isn't found", x.work(), 1);
        Check.order("1 alone", x, 1);
        x.touch(3);
        Check.same("it waits for 3 alone", x.work(), 2);
        Check.order("3 and 1", x, 3, 1);
        x.touch(4);
        x.touch(3);
        Check.same("it waits for both", x.work(), 4);
        Check.order("3, 4, 2 and 1", x, 3, 4, 2, 1);
    }

    private static void theOthersAreFoundRinged() {
        Check.sentence("The others are found ringed");
        HangOrder x = new HangOrder();
        x.link(LAST, LAST);
        x.link(0, LAST);
        x.link(1, 0);
        x.link(1, 2);
        x.link(3, 2);
        x.touch(2);
        Check.same("work", x.work(), 2);
        Check.order("2 and 3", x, 2, 3);
        Check.same("found", x.found(), 3);
        for (int a : new int[] {0, 1, 2, 3, LAST}) {
            Check.same("ringed(" + a + ")", x.ringed(a), a != 2 && a != 3);
        }
        x.touch(2);
        Check.same("work again", x.work(), 2);
        Check.same("found: 1 alone of the ringed ones hangs on 2", x.found(), 1);
    }

    private static void noNodeIsTouchedBehindIt() {
        Check.sentence("No node is touched behind it");
        HangOrder x = new HangOrder();
        x.touch(0);
        x.touch(LAST);
        x.link(1, 0);
        x.link(2, 2);
        x.link(3, 2);
        x.clear(4);
        x.link(5, 6);
        x.unlink(5, 6);
        x.work();
        for (int a : new int[] {0, 1, 2, 3, 4, 5, 6, LAST}) {
            Check.same("touched(" + a + ")", x.touched(a), false);
        }
        Check.same("a second work", x.work(), 0);
        Check.same("finds none", x.found(), 0);
    }

    private static void chainOfManyNodes() {
        Check.sentence("hangs on all that it reads, and on all that these hang on (500 deep)");
        HangOrder x = new HangOrder();
        for (int a = 0; a < 500; a++) {
            x.link(a, a + 1);
        }
        x.work();
        x.touch(500);
        Check.same("work", x.work(), 501);
        Check.same("the first", x.worked(0), 500);
        Check.same("the second", x.worked(1), 499);
        Check.same("the last", x.worked(500), 0);
        Check.same("behind the last", x.worked(501), HangOrder.NONE);
    }

    private static void manyWorks() {
        Check.sentence("TOUCHED since the latest work (through 250 works)");
        HangOrder x = new HangOrder();
        x.link(0, 1);
        x.link(2, 2);
        for (int k = 0; k < 250; k++) {
            x.touch(1);
            Check.same("work number " + k, x.work(), 2);
        }
        Check.order("the last work", x, 1, 0);
        Check.same("found", x.found(), 0);
        Check.same("ringed since the first work", x.ringed(2), true);
    }
}
