/** Promise 4: clear. */
public final class ClearTest {
    public static void main(String[] args) {
        takesAllThatANodeReads();
        nothingToTake();
        noSuchNode();
        Check.end();
    }

    private static void takesAllThatANodeReads() {
        HangOrder x = new HangOrder();
        x.link(3, 3);
        x.link(3, 4);
        x.link(3, Check.LAST_NODE);
        x.link(4, 3);
        x.link(5, 4);
        x.work();
        Check.same("clear(3)", x.clear(3), 3);
        Check.same("touched(3)", x.touched(3), true);
        Check.same("touched(4)", x.touched(4), false);
        Check.same("links(3, 1)", x.links(3, 1), 0);
        Check.same("links(3, 0)", x.links(3, 0), 1);
        Check.same("links(4, 0)", x.links(4, 0), 1);
        Check.same("links(last, 0)", x.links(Check.LAST_NODE, 0), 0);
        Check.same("clear(3) again", x.clear(3), 0);
        Check.same("unlink behind clear", x.unlink(3, 4), false);
        Check.same("link behind clear", x.link(3, 4), true);
    }

    private static void nothingToTake() {
        HangOrder x = new HangOrder();
        Check.same("clear of a node that reads nothing", x.clear(6), 0);
        Check.same("is touched all the same", x.touched(6), true);
        Check.same("work", x.work(), 1);
        Check.order("cleared", x, 6);
        Check.same("clear(0)", x.clear(0), 0);
        Check.same("clear(last)", x.clear(Check.LAST_NODE), 0);
        Check.same("work", x.work(), 2);
    }

    private static void noSuchNode() {
        HangOrder x = new HangOrder();
        for (int no : Check.NO_NODES) {
            Check.refusesArgument("clear(" + no + ")", () -> x.clear(no));
        }
        Check.same("a refused clear touches nothing", x.work(), 0);
    }
}
