/** Promise 1: a new object has no links and none touched; and the state before the first work. */
public final class NewObjectTest {
    public static void main(String[] args) {
        Check.same("NONE", HangOrder.NONE, -1);
        nothingIsThere();
        firstWorkFindsNothing();
        objectsShareNothing();
        Check.end();
    }

    private static void nothingIsThere() {
        HangOrder x = new HangOrder();
        for (int a = 0; a <= Check.LAST_NODE; a++) {
            Check.same("links(" + a + ", 0)", x.links(a, 0), 0);
            Check.same("links(" + a + ", 1)", x.links(a, 1), 0);
            Check.same("touched(" + a + ")", x.touched(a), false);
            Check.same("ringed(" + a + ")", x.ringed(a), false);
        }
        Check.same("found before work", x.found(), 0);
        Check.same("worked(0) before work", x.worked(0), HangOrder.NONE);
        Check.same("worked(-1) before work", x.worked(-1), HangOrder.NONE);
    }

    private static void firstWorkFindsNothing() {
        HangOrder x = new HangOrder();
        Check.same("work of a new object", x.work(), 0);
        Check.same("found of a new object", x.found(), 0);
        Check.order("a new object", x);
    }

    private static void objectsShareNothing() {
        HangOrder x = new HangOrder();
        x.link(1, 1);
        x.work();
        x.touch(2);
        HangOrder y = new HangOrder();
        Check.same("links of another object", y.links(1, 1), 0);
        Check.same("ringed of another object", y.ringed(1), false);
        Check.same("touched of another object", y.touched(2), false);
        Check.same("found of another object", y.found(), 0);
    }
}
