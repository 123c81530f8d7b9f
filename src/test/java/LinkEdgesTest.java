/** Boundary cases of promise 2: link. That 65536 links are there stands in MostLinksEdgesTest. */
public final class LinkEdgesTest {
    private static final int LAST = Check.LAST_NODE;

    public static void main(String[] args) {
        readsAndIsTouched();
        readsAlready();
        readsAlreadyWhenTouched();
        noSuchReader();
        noSuchSource();
        noSuchNodeAtAll();
        readsItself();
        Check.end();
    }

    private static void readsAndIsTouched() {
        Check.sentence("Node a reads b, and is touched");
        int[] ends = {0, 1, LAST - 1, LAST};
        for (int a : ends) {
            for (int b : ends) {
                HangOrder x = new HangOrder();
                String at = "link(" + a + ", " + b + ")";
                Check.same(at, x.link(a, b), true);
                for (int c : ends) {
                    Check.same(at + ": reads of " + c, x.links(c, 1), c == a ? 1 : 0);
                    Check.same(at + ": readers of " + c, x.links(c, 0), c == b ? 1 : 0);
                    Check.same(at + ": touched " + c, x.touched(c), c == a);
                }
                Check.same(at + ": work", x.work(), a == b ? 0 : 1);
                Check.same(at + ": found", x.found(), a == b ? 1 : 0);
                Check.same(at + ": worked(0)", x.worked(0), a == b ? HangOrder.NONE : a);
            }
        }
    }

    private static void readsAlready() {
        Check.sentence("false if it reads b already (then it isn't touched by this)");
        HangOrder x = Prepared.make();
        Check.same("link(0, last)", x.link(0, LAST), false);
        Check.same("link(7, 0)", x.link(7, 0), false);
        Check.same("link(6, 5)", x.link(6, 5), false);
        Check.same("link(5, 5)", x.link(5, 5), false);
        Prepared.expectNoChange("links that were there", x);
        HangOrder y = new HangOrder();
        y.link(LAST, 0);
        y.link(LAST, LAST);
        y.work();
        Check.same("link(last, 0)", y.link(LAST, 0), false);
        Check.same("link(last, last)", y.link(LAST, LAST), false);
        Check.same("touched(last)", y.touched(LAST), false);
        Check.same("touched(0)", y.touched(0), false);
        Check.same("work has nothing to do", y.work(), 0);
        Check.same("and finds no ring anew", y.found(), 0);
    }

    private static void readsAlreadyWhenTouched() {
        Check.sentence("false if it reads b already: what touched it before stays");
        HangOrder x = new HangOrder();
        Check.same("link(3, 4)", x.link(3, 4), true);
        Check.same("link(3, 4) at once again", x.link(3, 4), false);
        Check.same("touched by the first", x.touched(3), true);
        Check.same("one link", x.links(3, 1), 1);
        Check.same("one reader", x.links(4, 0), 1);
        Check.same("work", x.work(), 1);
        x.unlink(3, 4);
        Check.same("link behind unlink", x.link(3, 4), true);
        x.clear(3);
        Check.same("link behind clear", x.link(3, 4), true);
        Check.same("one link", x.links(3, 1), 1);
    }

    private static void noSuchReader() {
        Check.sentence("IllegalArgumentException: there is no such node (a)");
        for (int no : Check.NO_NODES) {
            HangOrder x = Prepared.make();
            Check.refusesArgument("link(" + no + ", 0)", () -> x.link(no, 0));
            Check.refusesArgument("link(" + no + ", last)", () -> x.link(no, LAST));
            Prepared.expectNoChange("link(" + no + ", ..)", x);
        }
    }

    private static void noSuchSource() {
        Check.sentence("IllegalArgumentException: there is no such node (b)");
        for (int no : Check.NO_NODES) {
            HangOrder x = Prepared.make();
            Check.refusesArgument("link(0, " + no + ")", () -> x.link(0, no));
            Check.refusesArgument("link(1, " + no + ")", () -> x.link(1, no));
            Check.refusesArgument("link(last - 1, " + no + ")", () -> x.link(LAST - 1, no));
            Prepared.expectNoChange("link(.., " + no + ")", x);
        }
    }

    private static void noSuchNodeAtAll() {
        Check.sentence("IllegalArgumentException: there is no such node (both)");
        for (int no : Check.NO_NODES) {
            HangOrder x = Prepared.make();
            Check.refusesArgument("link(" + no + ", " + no + ")", () -> x.link(no, no));
            Check.refusesArgument("link(" + no + ", -1)", () -> x.link(no, -1));
            Check.refusesArgument("link(16384, " + no + ")", () -> x.link(LAST + 1, no));
            Prepared.expectNoChange("link(" + no + ", " + no + ")", x);
        }
    }

    private static void readsItself() {
        Check.sentence("A node may READ others, and itself");
        for (int a : new int[] {0, 1, LAST - 1, LAST}) {
            HangOrder x = new HangOrder();
            String at = "link(" + a + ", itself)";
            Check.same(at, x.link(a, a), true);
            Check.same(at + " again", x.link(a, a), false);
            Check.same(at + ": readers", x.links(a, 0), 1);
            Check.same(at + ": reads", x.links(a, 1), 1);
            Check.same(at + ": touched", x.touched(a), true);
            Check.same(at + ": work", x.work(), 0);
            Check.same(at + ": found", x.found(), 1);
            Check.same(at + ": ringed", x.ringed(a), true);
            Check.same(at + ": unlink", x.unlink(a, a), true);
            Check.same(at + ": work behind unlink", x.work(), 1);
            Check.same(at + ": found behind unlink", x.found(), 0);
            Check.order(at, x, a);
        }
    }
}
