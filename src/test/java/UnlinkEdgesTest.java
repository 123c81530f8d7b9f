/** Boundary cases of promise 3: unlink. */
public final class UnlinkEdgesTest {
    private static final int LAST = Check.LAST_NODE;

    public static void main(String[] args) {
        readsItNoMore();
        lastLinkOfAll();
        doesNotReadIt();
        noSuchReader();
        noSuchSource();
        noSuchNodeAtAll();
        Check.end();
    }

    private static void readsItNoMore() {
        Check.sentence("Node a doesn't read b any more, and is touched");
        int[] ends = {0, 1, LAST - 1, LAST};
        for (int a : ends) {
            for (int b : ends) {
                HangOrder x = new HangOrder();
                String at = "unlink(" + a + ", " + b + ")";
                x.link(a, b);
                x.work();
                Check.same(at, x.unlink(a, b), true);
                for (int c : ends) {
                    Check.same(at + ": reads of " + c, x.links(c, 1), 0);
                    Check.same(at + ": readers of " + c, x.links(c, 0), 0);
                    Check.same(at + ": touched " + c, x.touched(c), c == a);
                }
                Check.same(at + " again", x.unlink(a, b), false);
                Check.same(at + ": work", x.work(), 1);
                Check.order(at, x, a);
                x.touch(b);
                Check.same(at + ": nothing hangs on b", x.work(), 1);
            }
        }
    }

    private static void lastLinkOfAll() {
        Check.sentence("Node a doesn't read b any more, and is touched: down to no link");
        HangOrder x = new HangOrder();
        for (int b = 0; b < 100; b++) {
            x.link(50, b);
        }
        x.work();
        for (int b = 99; b >= 0; b--) {
            Check.same("unlink(50, " + b + ")", x.unlink(50, b), true);
            Check.same("links(50, 1)", x.links(50, 1), b);
        }
        Check.same("unlink of none", x.unlink(50, 0), false);
        Check.same("links(50, 1)", x.links(50, 1), 0);
        Check.same("work", x.work(), 1);
        Check.same("found", x.found(), 0);
    }

    private static void doesNotReadIt() {
        Check.sentence("false if it doesn't");
        HangOrder x = Prepared.make();
        Check.same("unlink(0, last - 1)", x.unlink(0, LAST - 1), false);
        Check.same("unlink(last, 0): the other way", x.unlink(LAST, 0), false);
        Check.same("unlink(6, 6)", x.unlink(6, 6), false);
        Check.same("unlink(5, 6): the other way", x.unlink(5, 6), false);
        Check.same("unlink(1, 1): never named", x.unlink(1, 1), false);
        Check.same("unlink(last - 1, 0): never named", x.unlink(LAST - 1, 0), false);
        Check.same("unlink(7, last): hangs on it, but does not read it", x.unlink(7, LAST), false);
        Prepared.expectNoChange("unlinks of what was not there", x);
    }

    private static void noSuchReader() {
        Check.sentence("IllegalArgumentException: there is no such node (a)");
        for (int no : Check.NO_NODES) {
            HangOrder x = Prepared.make();
            Check.refusesArgument("unlink(" + no + ", 0)", () -> x.unlink(no, 0));
            Check.refusesArgument("unlink(" + no + ", last)", () -> x.unlink(no, LAST));
            Prepared.expectNoChange("unlink(" + no + ", ..)", x);
        }
    }

    private static void noSuchSource() {
        Check.sentence("IllegalArgumentException: there is no such node (b)");
        for (int no : Check.NO_NODES) {
            HangOrder x = Prepared.make();
            Check.refusesArgument("unlink(0, " + no + ")", () -> x.unlink(0, no));
            Check.refusesArgument("unlink(1, " + no + ")", () -> x.unlink(1, no));
            Check.refusesArgument("unlink(last, " + no + ")", () -> x.unlink(LAST, no));
            Prepared.expectNoChange("unlink(.., " + no + ")", x);
        }
    }

    private static void noSuchNodeAtAll() {
        Check.sentence("IllegalArgumentException: there is no such node (both)");
        for (int no : Check.NO_NODES) {
            HangOrder x = Prepared.make();
            Check.refusesArgument("unlink(" + no + ", " + no + ")", () -> x.unlink(no, no));
            Check.refusesArgument("unlink(" + no + ", -1)", () -> x.unlink(no, -1));
            Check.refusesArgument("unlink(16384, " + no + ")", () -> x.unlink(LAST + 1, no));
            Prepared.expectNoChange("unlink(" + no + ", " + no + ")", x);
        }
    }
}
