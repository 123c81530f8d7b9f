/** Promise 11: touched. */
public final class TouchedTest {
    public static void main(String[] args) {
        HangOrder x = new HangOrder();
        x.touch(0);
        x.touch(Check.LAST_NODE);
        x.touch(128);
        x.link(1, 2);
        x.link(3, 3);
        x.clear(4);
        for (int a : new int[] {0, Check.LAST_NODE, 128, 1, 3, 4}) {
            Check.same("touched(" + a + ")", x.touched(a), true);
        }
        Check.same("touched(2)", x.touched(2), false);
        Check.same("touched(5)", x.touched(5), false);
        for (int no : Check.NO_NODES) {
            Check.same("touched(" + no + ")", x.touched(no), false);
        }
        x.work();
        for (int a = 0; a <= Check.LAST_NODE; a++) {
            Check.same("behind a work touched(" + a + ")", x.touched(a), false);
        }
        x.unlink(1, 2);
        Check.same("touched(1) behind unlink", x.touched(1), true);
        x.touch(3);
        Check.same("a ringed node can be touched", x.touched(3), true);
        Check.end();
    }
}
