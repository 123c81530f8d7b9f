/** Boundary cases of promise 4: clear. */
public final class ClearEdgesTest {
    private static final int LAST = Check.LAST_NODE;

    public static void main(String[] args) {
        readsNothingAnyMore();
        readNothingBefore();
        readItself();
        readMany();
        readersStay();
        noSuchNode();
        Check.end();
    }

    private static void readsNothingAnyMore() {
        Check.sentence("Node a reads nothing any more, and is touched: how many it read");
        for (int a : new int[] {0, 1, LAST - 1, LAST}) {
            HangOrder x = new HangOrder();
            x.link(a, 0);
            x.link(a, LAST);
            x.link(a, 77);
            x.work();
            String at = "clear(" + a + ")";
            Check.same(at, x.clear(a), 3);
            for (int b : new int[] {0, LAST, 77}) {
                Check.same(at + ": readers of " + b, x.links(b, 0), 0);
                Check.same(at + ": touched " + b, x.touched(b), b == a);
                Check.same(at + ": unlink " + b, x.unlink(a, b), false);
            }
            Check.same(at + ": reads", x.links(a, 1), 0);
            Check.same(at + ": touched", x.touched(a), true);
            Check.same(at + ": work", x.work(), 1);
            Check.order(at, x, a);
            Check.same(at + ": ringed", x.ringed(a), false);
        }
    }

    private static void readNothingBefore() {
        Check.sentence("and is touched: how many it read (it read none)");
        for (int a : new int[] {0, 1, LAST - 1, LAST}) {
            HangOrder x = new HangOrder();
            Check.same("clear of a node never named", x.clear(a), 0);
            Check.same("touched", x.touched(a), true);
            Check.same("work", x.work(), 1);
            Check.order("work", x, a);
            Check.same("clear again", x.clear(a), 0);
            Check.same("touched again", x.touched(a), true);
            Check.same("clear when touched", x.clear(a), 0);
            Check.same("worked out once", x.work(), 1);
            Check.same("links(a, 1)", x.links(a, 1), 0);
        }
    }

    private static void readItself() {
        Check.sentence("Node a reads nothing any more (not itself either)");
        for (int a : new int[] {0, LAST}) {
            HangOrder x = new HangOrder();
            x.link(a, a);
            x.work();
            Check.same("clear", x.clear(a), 1);
            Check.same("readers", x.links(a, 0), 0);
            Check.same("reads", x.links(a, 1), 0);
            Check.same("ringed still, as at the latest work", x.ringed(a), true);
            Check.same("work", x.work(), 1);
            Check.same("found", x.found(), 0);
            Check.same("ringed no more", x.ringed(a), false);
            Check.same("link anew", x.link(a, a), true);
        }
    }

    private static void readMany() {
        Check.sentence("how many it read (as many as 500 calls can make)");
        HangOrder x = new HangOrder();
        for (int k = 0; k < 500; k++) {
            x.link(LAST, k * 32);
        }
        Check.same("clear(last)", x.clear(LAST), 500);
        Check.same("links(last, 1)", x.links(LAST, 1), 0);
        Check.same("links(0, 0)", x.links(0, 0), 0);
        Check.same("links(499 * 32, 0)", x.links(499 * 32, 0), 0);
        Check.same("clear(last) again", x.clear(LAST), 0);
        Check.same("work", x.work(), 1);
    }

    private static void readersStay() {
        Check.sentence("Node a reads nothing any more (those that read it go on)");
        HangOrder x = new HangOrder();
        x.link(1, 2);
        x.link(2, 3);
        x.link(4, 2);
        x.link(4, 3);
        x.work();
        Check.same("clear(2)", x.clear(2), 1);
        Check.same("readers of 2", x.links(2, 0), 2);
        Check.same("readers of 3", x.links(3, 0), 1);
        Check.same("touched(1)", x.touched(1), false);
        Check.same("touched(4)", x.touched(4), false);
        Check.same("work", x.work(), 3);
        Check.order("work", x, 2, 1, 4);
        x.touch(3);
        Check.same("only 4 hangs on 3 now", x.work(), 2);
        Check.order("only 4 hangs on 3 now", x, 3, 4);
    }

    private static void noSuchNode() {
        Check.sentence("IllegalArgumentException: there is no such node");
        for (int no : Check.NO_NODES) {
            HangOrder x = Prepared.make();
            Check.refusesArgument("clear(" + no + ")", () -> x.clear(no));
            Prepared.expectNoChange("clear(" + no + ")", x);
        }
    }
}
