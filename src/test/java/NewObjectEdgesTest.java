/** Boundary cases of promise 1: a new object, seen within the 512 calls that are promised. */
public final class NewObjectEdgesTest {
    private static final int NODES_FOR_ONE_OBJECT = 128;

    public static void main(String[] args) {
        noLinks();
        noneTouched();
        nothingToTakeAway();
        nothingWorkedYet();
        refusedAtOnce();
        Check.end();
    }

    private static void noLinks() {
        Check.sentence("No links");
        HangOrder x = new HangOrder();
        for (int a = 0; a <= Check.LAST_NODE; a++) {
            if (a % NODES_FOR_ONE_OBJECT == 0) {
                x = new HangOrder();
            }
            Check.same("links(" + a + ", 0)", x.links(a, 0), 0);
            Check.same("links(" + a + ", 1)", x.links(a, 1), 0);
        }
    }

    private static void noneTouched() {
        Check.sentence("none touched");
        HangOrder x = new HangOrder();
        for (int a = 0; a <= Check.LAST_NODE; a++) {
            if (a % NODES_FOR_ONE_OBJECT == 0) {
                x = new HangOrder();
            }
            Check.same("touched(" + a + ")", x.touched(a), false);
        }
        Check.same("work", x.work(), 0);
        Check.order("work", x);
        Check.same("found", x.found(), 0);
    }

    private static void nothingToTakeAway() {
        Check.sentence("No links");
        HangOrder x = new HangOrder();
        for (int a : new int[] {0, 1, Check.LAST_NODE}) {
            Check.same("unlink(" + a + ", 0)", x.unlink(a, 0), false);
            Check.same("unlink(" + a + ", last)", x.unlink(a, Check.LAST_NODE), false);
            Check.same("unlink(" + a + ", " + a + ")", x.unlink(a, a), false);
            Check.same("clear(" + a + ")", new HangOrder().clear(a), 0);
        }
    }

    private static void nothingWorkedYet() {
        Check.sentence("before the first work");
        HangOrder x = new HangOrder();
        Check.same("found", x.found(), 0);
        for (int k : new int[] {-1, 0, 1, 15, 16, Integer.MIN_VALUE, Integer.MAX_VALUE}) {
            Check.same("worked(" + k + ")", x.worked(k), HangOrder.NONE);
        }
        Check.same("ringed(0)", x.ringed(0), false);
        Check.same("ringed(last)", x.ringed(Check.LAST_NODE), false);
    }

    /** A refusal as the very first call: the object stays as new. */
    private static void refusedAtOnce() {
        Check.sentence("a new object behind a refused call");
        for (int no : Check.NO_NODES) {
            HangOrder x = new HangOrder();
            Check.refusesArgument("touch(" + no + ")", () -> x.touch(no));
            Check.refusesArgument("clear(" + no + ")", () -> x.clear(no));
            Check.refusesArgument("link(" + no + ", 0)", () -> x.link(no, 0));
            Check.refusesArgument("unlink(0, " + no + ")", () -> x.unlink(0, no));
            Check.same("touched(0)", x.touched(0), false);
            Check.same("touched(last)", x.touched(Check.LAST_NODE), false);
            Check.same("links(0, 0)", x.links(0, 0), 0);
            Check.same("links(0, 1)", x.links(0, 1), 0);
            Check.same("work", x.work(), 0);
            Check.same("found", x.found(), 0);
        }
    }
}
