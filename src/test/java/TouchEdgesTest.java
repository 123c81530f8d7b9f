/** Boundary cases of promise 5: touch. */
public final class TouchEdgesTest {
    private static final int LAST = Check.LAST_NODE;

    public static void main(String[] args) {
        bothEnds();
        moreThanOnce();
        ringed();
        noSuchNode();
        Check.end();
    }

    private static void bothEnds() {
        Check.sentence("Node a is touched");
        int[] ends = {0, 1, LAST - 1, LAST};
        for (int a : ends) {
            HangOrder x = new HangOrder();
            x.touch(a);
            for (int c : ends) {
                Check.same("touch(" + a + "): touched " + c, x.touched(c), c == a);
                Check.same("touch(" + a + "): readers of " + c, x.links(c, 0), 0);
                Check.same("touch(" + a + "): reads of " + c, x.links(c, 1), 0);
            }
            Check.same("touch(" + a + "): work", x.work(), 1);
            Check.order("touch(" + a + ")", x, a);
            Check.same("touch(" + a + "): found", x.found(), 0);
        }
    }

    private static void moreThanOnce() {
        Check.sentence("Node a is touched (and is worked out once)");
        HangOrder x = new HangOrder();
        for (int k = 0; k < 100; k++) {
            x.touch(0);
            x.touch(LAST);
        }
        Check.same("work", x.work(), 2);
        Check.order("work", x, 0, LAST);
        x.touch(0);
        Check.same("touched anew behind a work", x.touched(0), true);
        Check.same("the other one is not", x.touched(LAST), false);
        Check.same("work", x.work(), 1);
    }

    private static void ringed() {
        Check.sentence("Node a is touched (a ringed one too)");
        HangOrder x = new HangOrder();
        x.link(0, 0);
        x.link(LAST, 0);
        x.work();
        x.touch(LAST);
        Check.same("touched(last)", x.touched(LAST), true);
        Check.same("touched(0)", x.touched(0), false);
        Check.same("work", x.work(), 0);
        Check.same("found", x.found(), 1);
        x.touch(0);
        Check.same("work", x.work(), 0);
        Check.same("found", x.found(), 2);
        Check.same("touched(0) behind work", x.touched(0), false);
    }

    private static void noSuchNode() {
        Check.sentence("IllegalArgumentException: there is no such node");
        for (int no : Check.NO_NODES) {
            HangOrder x = Prepared.make();
            Check.refusesArgument("touch(" + no + ")", () -> x.touch(no));
            Prepared.expectNoChange("touch(" + no + ")", x);
        }
    }
}
