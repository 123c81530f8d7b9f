/** Promise 5: touch. */
public final class TouchTest {
    public static void main(String[] args) {
        touchesOneNode();
        everyNodeCanBeTouched();
        noSuchNode();
        Check.end();
    }

    private static void touchesOneNode() {
        HangOrder x = new HangOrder();
        x.link(1, 2);
        x.work();
        x.touch(2);
        x.touch(2);
        Check.same("touched(2)", x.touched(2), true);
        Check.same("its reader is not touched", x.touched(1), false);
        Check.same("worked out once each", x.work(), 2);
        Check.order("touched twice", x, 2, 1);
    }

    private static void everyNodeCanBeTouched() {
        HangOrder x = new HangOrder();
        for (int a = Check.LAST_NODE; a >= 0; a--) {
            x.touch(a);
        }
        Check.same("work of all nodes", x.work(), Check.LAST_NODE + 1);
        for (int a = 0; a <= Check.LAST_NODE; a++) {
            Check.same("worked(" + a + ")", x.worked(a), a);
        }
        Check.same("worked behind all nodes", x.worked(Check.LAST_NODE + 1), HangOrder.NONE);
    }

    private static void noSuchNode() {
        HangOrder x = new HangOrder();
        for (int no : Check.NO_NODES) {
            Check.refusesArgument("touch(" + no + ")", () -> x.touch(no));
        }
        Check.same("a refused touch touches nothing", x.work(), 0);
    }
}
