/** Promise 6: work, and the terms TOUCHED, WORK and RINGED. */
public final class WorkTest {
    public static void main(String[] args) {
        behindAllThatItReads();
        leastOfThoseThatAreReady();
        onlyWhatHangsOnTouched();
        ringedAreNotWorkedOut();
        ringThatWasNotFoundAgain();
        ringOpenedAndClosed();
        secondWorkHasNothing();
        longChain();
        Check.end();
    }

    private static void behindAllThatItReads() {
        HangOrder x = new HangOrder();
        x.link(0, 1);
        x.link(1, 2);
        x.link(0, 2);
        x.link(2, 3);
        Check.same("work", x.work(), 3);
        Check.order("a chain", x, 2, 1, 0);
    }

    /** A node that becomes ready goes before greater ones that were ready long before. */
    private static void leastOfThoseThatAreReady() {
        HangOrder x = new HangOrder();
        x.link(1, 20);
        x.link(2, 10);
        x.link(0, 2);
        for (int a : new int[] {30, 20, 25, 10, 15}) {
            x.touch(a);
        }
        Check.same("work", x.work(), 8);
        Check.order("the least first", x, 10, 2, 0, 15, 20, 1, 25, 30);
    }

    private static void onlyWhatHangsOnTouched() {
        HangOrder x = new HangOrder();
        x.link(4, 3);
        x.link(3, 2);
        x.link(2, 1);
        x.link(3, 9);
        x.link(8, 9);
        x.work();
        x.touch(2);
        Check.same("work", x.work(), 3);
        Check.order("those that hang on 2", x, 2, 3, 4);
        x.touch(9);
        x.touch(4);
        Check.same("work", x.work(), 4);
        Check.order("those that hang on 9, and 4", x, 9, 3, 4, 8);
    }

    private static void ringedAreNotWorkedOut() {
        HangOrder x = new HangOrder();
        x.link(1, 2);
        x.link(2, 1);
        x.link(3, 2);
        x.link(4, 3);
        x.link(1, 5);
        x.link(6, 5);
        x.touch(5);
        Check.same("work", x.work(), 2);
        Check.order("ring", x, 5, 6);
        Check.same("found", x.found(), 4);
    }

    /** The ring itself is neither touched nor hangs on the touched node that hangs on it. */
    private static void ringThatWasNotFoundAgain() {
        HangOrder x = new HangOrder();
        x.link(1, 2);
        x.link(2, 1);
        x.work();
        x.link(3, 2);
        x.link(4, 3);
        Check.same("work", x.work(), 0);
        Check.same("found", x.found(), 2);
        Check.same("ringed(3)", x.ringed(3), true);
        Check.same("ringed(4)", x.ringed(4), true);
        Check.same("the ring stays ringed", x.ringed(1), true);
        x.unlink(3, 2);
        Check.same("work behind unlink", x.work(), 2);
        Check.order("off the ring", x, 3, 4);
        Check.same("found behind unlink", x.found(), 0);
        Check.same("ringed(4) behind unlink", x.ringed(4), false);
        Check.same("ringed(2) behind unlink", x.ringed(2), true);
    }

    private static void ringOpenedAndClosed() {
        HangOrder x = new HangOrder();
        x.link(1, 2);
        x.link(2, 3);
        x.link(3, 1);
        x.link(7, 1);
        x.work();
        Check.same("found in the ring", x.found(), 4);
        x.clear(2);
        Check.same("work of the opened ring", x.work(), 4);
        Check.order("opened ring", x, 2, 1, 3, 7);
        x.link(2, 3);
        Check.same("work of the closed ring", x.work(), 0);
        Check.same("found in the closed ring", x.found(), 4);
        x.clear(7);
        x.unlink(1, 2);
        Check.same("work", x.work(), 4);
        Check.order("opened elsewhere", x, 1, 3, 2, 7);
    }

    private static void secondWorkHasNothing() {
        HangOrder x = new HangOrder();
        x.link(1, 2);
        x.link(3, 3);
        x.work();
        Check.same("touched(1)", x.touched(1), false);
        Check.same("touched(3)", x.touched(3), false);
        Check.same("second work", x.work(), 0);
        Check.same("second found", x.found(), 0);
        Check.order("second work", x);
        Check.same("3 is ringed still", x.ringed(3), true);
    }

    private static void longChain() {
        HangOrder x = new HangOrder();
        for (int a = 0; a < Check.LAST_NODE; a++) {
            x.link(a, a + 1);
        }
        x.touch(Check.LAST_NODE);
        Check.same("work of a long chain", x.work(), Check.LAST_NODE + 1);
        Check.same("its first", x.worked(0), Check.LAST_NODE);
        Check.same("its last", x.worked(Check.LAST_NODE), 0);
        x.link(Check.LAST_NODE, 0);
        Check.same("work of a long ring", x.work(), 0);
        Check.same("found in a long ring", x.found(), Check.LAST_NODE + 1);
    }
}
