/** Boundary cases of promise 9: ringed. */
public final class RingedEdgesTest {
    private static final int LAST = Check.LAST_NODE;

    public static void main(String[] args) {
        beforeTheFirstWork();
        ringMadeBehindTheWork();
        ringGoneBehindTheWork();
        hangingChangedBehindTheWork();
        latestWorkDidNotFindIt();
        readsARingThatWasNotFound();
        refusedCalls();
        noSuchNode();
        Check.end();
    }

    private static void beforeTheFirstWork() {
        Check.sentence("Whether a node was ringed at the latest work (there was none)");
        HangOrder x = new HangOrder();
        x.link(0, 0);
        x.link(LAST, 0);
        Check.same("ringed(0)", x.ringed(0), false);
        Check.same("ringed(last)", x.ringed(LAST), false);
        x.work();
        Check.same("ringed(0) behind work", x.ringed(0), true);
        Check.same("ringed(last) behind work", x.ringed(LAST), true);
        Check.same("ringed(1) behind work", x.ringed(1), false);
    }

    private static void ringMadeBehindTheWork() {
        Check.sentence("links being as they were then (a ring is made)");
        HangOrder x = new HangOrder();
        x.link(0, LAST);
        x.work();
        x.link(LAST, 0);
        Check.same("ringed(0)", x.ringed(0), false);
        Check.same("ringed(last)", x.ringed(LAST), false);
        x.work();
        Check.same("ringed(0) behind work", x.ringed(0), true);
        Check.same("ringed(last) behind work", x.ringed(LAST), true);
    }

    private static void ringGoneBehindTheWork() {
        Check.sentence("links being as they were then (a ring goes)");
        for (int way = 0; way < 2; way++) {
            HangOrder x = new HangOrder();
            x.link(0, LAST);
            x.link(LAST, 0);
            x.link(4, 0);
            x.work();
            if (way == 0) {
                x.unlink(0, LAST);
            } else {
                x.clear(0);
            }
            for (int a : new int[] {0, 4, LAST}) {
                Check.same("ringed(" + a + ")", x.ringed(a), true);
            }
            x.work();
            for (int a : new int[] {0, 4, LAST}) {
                Check.same("ringed(" + a + ") behind work", x.ringed(a), false);
            }
        }
    }

    private static void hangingChangedBehindTheWork() {
        Check.sentence("links being as they were then (what hangs on a ring changes)");
        HangOrder x = new HangOrder();
        x.link(1, 1);
        x.link(2, 1);
        x.link(3, 4);
        x.work();
        x.unlink(2, 1);
        x.link(3, 1);
        Check.same("ringed(2)", x.ringed(2), true);
        Check.same("ringed(3)", x.ringed(3), false);
        x.work();
        Check.same("ringed(2) behind work", x.ringed(2), false);
        Check.same("ringed(3) behind work", x.ringed(3), true);
        Check.same("ringed(1) behind work", x.ringed(1), true);
        Check.same("ringed(4) behind work", x.ringed(4), false);
    }

    private static void latestWorkDidNotFindIt() {
        Check.sentence("Whether a node was ringed at the latest work (found by it or not)");
        HangOrder x = new HangOrder();
        x.link(1, 2);
        x.link(2, 1);
        x.link(3, 2);
        x.work();
        x.touch(9);
        x.work();
        x.work();
        for (int a = 1; a <= 3; a++) {
            Check.same("ringed(" + a + ")", x.ringed(a), true);
        }
        Check.same("ringed(9)", x.ringed(9), false);
    }

    /** Two links away from a ring that this work does not find. */
    private static void readsARingThatWasNotFound() {
        Check.sentence("RINGED if it hangs on itself, or on one that does");
        HangOrder x = new HangOrder();
        x.link(1, 1);
        x.link(2, 1);
        x.work();
        x.link(0, 2);
        x.link(LAST, 0);
        Check.same("work", x.work(), 0);
        Check.same("found", x.found(), 2);
        Check.same("ringed(0)", x.ringed(0), true);
        Check.same("ringed(last)", x.ringed(LAST), true);
        x.unlink(1, 1);
        Check.same("work of all", x.work(), 4);
        Check.order("work of all", x, 1, 2, 0, LAST);
        Check.same("ringed(last) no more", x.ringed(LAST), false);
    }

    private static void refusedCalls() {
        Check.sentence("links being as they were then (refused calls)");
        HangOrder x = Prepared.make();
        Check.refusesArgument("link(5, -1)", () -> x.link(5, -1));
        Check.refusesArgument("unlink(5, 16384)", () -> x.unlink(5, LAST + 1));
        Check.refusesArgument("clear(16384)", () -> x.clear(LAST + 1));
        Check.same("ringed(5)", x.ringed(5), true);
        Check.same("ringed(6)", x.ringed(6), true);
        Check.same("ringed(0)", x.ringed(0), false);
        Prepared.expectNoChange("refused calls", x);
    }

    private static void noSuchNode() {
        Check.sentence("false if there is no such node");
        HangOrder x = new HangOrder();
        for (int a : new int[] {0, 1, 127, 128, LAST - 1, LAST}) {
            x.link(a, a);
        }
        Check.same("work", x.work(), 0);
        Check.same("ringed(0)", x.ringed(0), true);
        Check.same("ringed(last)", x.ringed(LAST), true);
        HangOrder y = Prepared.make();
        for (int no : Check.NO_NODES) {
            Check.same("ringed(" + no + ")", x.ringed(no), false);
            Check.same("ringed(" + no + ")", y.ringed(no), false);
            Check.same("ringed(" + no + ") of a new object", new HangOrder().ringed(no), false);
        }
        Prepared.expectNoChange("ringed of no node", y);
    }
}
