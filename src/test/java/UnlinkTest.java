/** Promise 3: unlink. */
public final class UnlinkTest {
    public static void main(String[] args) {
        takesOneLink();
        fromEveryPlaceInTheChains();
        notThere();
        noSuchNode();
        Check.end();
    }

    private static void takesOneLink() {
        HangOrder x = new HangOrder();
        x.link(3, 5);
        x.link(5, 3);
        x.work();
        Check.same("unlink(3, 5)", x.unlink(3, 5), true);
        Check.same("reader touched", x.touched(3), true);
        Check.same("read node not touched", x.touched(5), false);
        Check.same("links(3, 1)", x.links(3, 1), 0);
        Check.same("links(5, 0)", x.links(5, 0), 0);
        Check.same("the other way stays", x.links(5, 1), 1);
        Check.same("unlink(3, 5) again", x.unlink(3, 5), false);
        Check.same("link(3, 5) again", x.link(3, 5), true);
        x.link(9, 9);
        Check.same("unlink of a node that reads itself", x.unlink(9, 9), true);
        Check.same("links(9, 0)", x.links(9, 0), 0);
        Check.same("links(9, 1)", x.links(9, 1), 0);
    }

    private static void fromEveryPlaceInTheChains() {
        for (int gone = 0; gone < 3; gone++) {
            HangOrder x = new HangOrder();
            HangOrder y = new HangOrder();
            for (int k = 0; k < 3; k++) {
                x.link(10, k);
                y.link(k, 10);
            }
            x.unlink(10, gone);
            y.unlink(gone, 10);
            Check.same("two are read", x.links(10, 1), 2);
            Check.same("two read", y.links(10, 0), 2);
            for (int k = 0; k < 3; k++) {
                Check.same("is read", x.links(k, 0), k == gone ? 0 : 1);
                Check.same("link there", x.link(10, k), k == gone);
            }
            y.work();
            y.touch(10);
            Check.same("readers found behind unlink", y.work(), 3);
        }
    }

    private static void notThere() {
        HangOrder x = new HangOrder();
        x.link(3, 5);
        x.work();
        Check.same("unlink(5, 3)", x.unlink(5, 3), false);
        Check.same("unlink(3, 4)", x.unlink(3, 4), false);
        Check.same("unlink(7, 8)", x.unlink(7, 8), false);
        Check.same("unlink(7, 7)", x.unlink(7, 7), false);
        Check.same("3 not touched", x.touched(3), false);
        Check.same("5 not touched", x.touched(5), false);
        Check.same("7 not touched", x.touched(7), false);
        Check.same("links(3, 1)", x.links(3, 1), 1);
        Check.same("work", x.work(), 0);
    }

    private static void noSuchNode() {
        HangOrder x = new HangOrder();
        for (int no : Check.NO_NODES) {
            Check.refusesArgument("unlink(" + no + ", 0)", () -> x.unlink(no, 0));
            Check.refusesArgument("unlink(0, " + no + ")", () -> x.unlink(0, no));
            Check.refusesArgument("unlink(" + no + ", " + no + ")", () -> x.unlink(no, no));
        }
        Check.same("a refused unlink touches nothing", x.touched(0), false);
    }
}
