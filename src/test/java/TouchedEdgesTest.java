/** Boundary cases of promise 11: touched. */
public final class TouchedEdgesTest {
    private static final int LAST = Check.LAST_NODE;

    public static void main(String[] args) {
        bothEnds();
        linksChanged();
        nothingChanged();
        sinceTheLatestWork();
        refusedCalls();
        noSuchNode();
        Check.end();
    }

    private static void bothEnds() {
        Check.sentence("Whether a node is touched (0 and 16383)");
        HangOrder x = new HangOrder();
        x.touch(0);
        Check.same("touched(0)", x.touched(0), true);
        Check.same("touched(1)", x.touched(1), false);
        Check.same("touched(last)", x.touched(LAST), false);
        x.touch(LAST);
        Check.same("touched(last)", x.touched(LAST), true);
        Check.same("touched(last - 1)", x.touched(LAST - 1), false);
        Check.same("touched(0) still", x.touched(0), true);
    }

    private static void linksChanged() {
        Check.sentence("TOUCHED are nodes whose links changed");
        HangOrder x = new HangOrder();
        x.link(0, LAST);
        expect(x, true, false);
        x.work();
        x.unlink(0, LAST);
        expect(x, true, false);
        x.work();
        x.link(LAST, 0);
        expect(x, false, true);
        x.work();
        x.clear(LAST);
        expect(x, false, true);
    }

    private static void nothingChanged() {
        Check.sentence("not touched: link and unlink that answer false");
        HangOrder x = new HangOrder();
        x.link(0, LAST);
        x.work();
        x.link(0, LAST);
        x.unlink(0, 0);
        x.unlink(LAST, 0);
        x.unlink(LAST, LAST);
        expect(x, false, false);
    }

    private static void sinceTheLatestWork() {
        Check.sentence("since the latest work");
        HangOrder x = new HangOrder();
        x.link(0, 0);
        x.touch(LAST);
        expect(x, true, true);
        x.work();
        expect(x, false, false);
        x.touch(0);
        expect(x, true, false);
        x.work();
        expect(x, false, false);
        x.work();
        expect(x, false, false);
    }

    private static void refusedCalls() {
        Check.sentence("not touched: refused calls");
        for (int no : Check.NO_NODES) {
            HangOrder x = new HangOrder();
            x.link(0, LAST);
            x.work();
            Check.refusesArgument("link", () -> x.link(0, no));
            Check.refusesArgument("link", () -> x.link(LAST, no));
            Check.refusesArgument("unlink", () -> x.unlink(0, no));
            Check.refusesArgument("link", () -> x.link(no, 0));
            Check.refusesArgument("touch", () -> x.touch(no));
            Check.refusesArgument("clear", () -> x.clear(no));
            expect(x, false, false);
            Check.same("touched(" + no + ")", x.touched(no), false);
        }
    }

    private static void noSuchNode() {
        Check.sentence("false if there is no such node");
        HangOrder x = new HangOrder();
        for (int a : new int[] {0, 1, 127, 128, LAST - 1, LAST}) {
            x.touch(a);
        }
        HangOrder y = Prepared.make();
        for (int no : Check.NO_NODES) {
            Check.same("touched(" + no + ")", x.touched(no), false);
            Check.same("touched(" + no + ")", y.touched(no), false);
            Check.same("touched(" + no + ") of a new object", new HangOrder().touched(no), false);
        }
        expect(x, true, true);
        Prepared.expectNoChange("touched of no node", y);
    }

    private static void expect(HangOrder x, boolean first, boolean last) {
        Check.same("touched(0)", x.touched(0), first);
        Check.same("touched(last)", x.touched(LAST), last);
    }
}
