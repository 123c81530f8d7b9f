/** Promise 2: link. */
public final class LinkTest {
    private static final int MOST_LINKS = 65536;

    public static void main(String[] args) {
        readsAndTouches();
        thereAlready();
        edgesOfTheNodes();
        noSuchNode();
        mostLinks();
        Check.end();
    }

    private static void readsAndTouches() {
        HangOrder x = new HangOrder();
        Check.same("link(3, 5)", x.link(3, 5), true);
        Check.same("reader touched", x.touched(3), true);
        Check.same("read node not touched", x.touched(5), false);
        Check.same("links(3, 1)", x.links(3, 1), 1);
        Check.same("links(5, 0)", x.links(5, 0), 1);
        Check.same("the other way is another link", x.link(5, 3), true);
        Check.same("link to itself", x.link(9, 9), true);
        Check.same("links(9, 0)", x.links(9, 0), 1);
        Check.same("links(9, 1)", x.links(9, 1), 1);
        Check.same("no ring told before work", x.ringed(9), false);
    }

    private static void thereAlready() {
        HangOrder x = new HangOrder();
        x.link(3, 5);
        x.link(3, 6);
        x.link(3, 7);
        x.link(8, 8);
        x.work();
        for (int b = 5; b <= 7; b++) {
            Check.same("link(3, b) again", x.link(3, b), false);
        }
        Check.same("link(8, 8) again", x.link(8, 8), false);
        Check.same("not touched by this", x.touched(3), false);
        Check.same("itself not touched by this", x.touched(8), false);
        Check.same("links(3, 1)", x.links(3, 1), 3);
        x.touch(3);
        Check.same("link(3, 5) again when touched", x.link(3, 5), false);
        Check.same("stays touched", x.touched(3), true);
    }

    private static void edgesOfTheNodes() {
        HangOrder x = new HangOrder();
        Check.same("link(0, last)", x.link(0, Check.LAST_NODE), true);
        Check.same("link(last, 0)", x.link(Check.LAST_NODE, 0), true);
        Check.same("link(last, last)", x.link(Check.LAST_NODE, Check.LAST_NODE), true);
        Check.same("links(last, 1)", x.links(Check.LAST_NODE, 1), 2);
        Check.same("links(last, 0)", x.links(Check.LAST_NODE, 0), 2);
    }

    private static void noSuchNode() {
        HangOrder x = new HangOrder();
        for (int no : Check.NO_NODES) {
            Check.refusesArgument("link(" + no + ", 0)", () -> x.link(no, 0));
            Check.refusesArgument("link(0, " + no + ")", () -> x.link(0, no));
            Check.refusesArgument("link(" + no + ", " + no + ")", () -> x.link(no, no));
        }
        Check.same("a refused link touches nothing", x.touched(0), false);
        Check.same("links(0, 0)", x.links(0, 0), 0);
        Check.same("links(0, 1)", x.links(0, 1), 0);
        Check.same("work", x.work(), 0);
    }

    private static void mostLinks() {
        HangOrder x = new HangOrder();
        for (int k = 0; k < MOST_LINKS; k++) {
            Check.same("link number " + k, x.link(k / 256, 1000 + k % 256), true);
        }
        x.work();
        Check.refusesState("one link more", () -> x.link(300, 301));
        Check.same("a refused link does not touch", x.touched(300), false);
        Check.same("a refused link is not there", x.links(300, 1), 0);
        Check.same("a link that is there is no one more", x.link(0, 1000), false);
        Check.refusesArgument("no such node goes first", () -> x.link(300, -1));
        x.unlink(0, 1000);
        Check.same("room behind unlink", x.link(300, 301), true);
        Check.refusesState("full again", () -> x.link(0, 1000));
        Check.same("clear", x.clear(1), 256);
        for (int k = 0; k < 256; k++) {
            Check.same("room behind clear", x.link(301, k), true);
        }
        Check.refusesState("full once more", () -> x.link(0, 1000));
    }
}
