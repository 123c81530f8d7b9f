/** Promise 9: ringed. */
public final class RingedTest {
    public static void main(String[] args) {
        asItWasAtTheLatestWork();
        hangsOnRingOrIsReadByIt();
        noSuchNode();
        Check.end();
    }

    private static void asItWasAtTheLatestWork() {
        HangOrder x = new HangOrder();
        x.link(1, 2);
        x.link(2, 1);
        Check.same("before the first work", x.ringed(1), false);
        x.work();
        Check.same("ringed(1)", x.ringed(1), true);
        Check.same("ringed(2)", x.ringed(2), true);
        x.unlink(1, 2);
        x.link(3, 3);
        Check.same("links as they were then: 1", x.ringed(1), true);
        Check.same("links as they were then: 2", x.ringed(2), true);
        Check.same("links as they were then: 3", x.ringed(3), false);
        x.work();
        Check.same("ringed(1) behind work", x.ringed(1), false);
        Check.same("ringed(2) behind work", x.ringed(2), false);
        Check.same("ringed(3) behind work", x.ringed(3), true);
        x.work();
        Check.same("ringed, though this work didn't find it", x.ringed(3), true);
    }

    private static void hangsOnRingOrIsReadByIt() {
        HangOrder x = new HangOrder();
        x.link(Check.LAST_NODE, Check.LAST_NODE);
        x.link(Check.LAST_NODE, 4);
        x.link(0, 1);
        x.link(1, Check.LAST_NODE);
        x.link(0, 4);
        x.touch(4);
        x.work();
        Check.same("on the ring", x.ringed(Check.LAST_NODE), true);
        Check.same("hangs on the ring", x.ringed(0), true);
        Check.same("is read by the ring", x.ringed(4), false);
        Check.same("has nothing to do with it", x.ringed(5), false);
    }

    private static void noSuchNode() {
        HangOrder x = new HangOrder();
        x.link(0, 0);
        x.link(Check.LAST_NODE, Check.LAST_NODE);
        x.link(128, 128);
        x.work();
        for (int no : Check.NO_NODES) {
            Check.same("ringed(" + no + ")", x.ringed(no), false);
        }
    }
}
