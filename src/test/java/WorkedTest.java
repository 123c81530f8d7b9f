/** Promise 7: worked. */
public final class WorkedTest {
    public static void main(String[] args) {
        HangOrder x = new HangOrder();
        x.touch(8);
        x.touch(6);
        x.link(7, 8);
        Check.same("before the first work", x.worked(0), HangOrder.NONE);
        x.work();
        Check.order("three", x, 6, 8, 7);
        for (int k : new int[] {-1, 3, 4, 16, 16383, 16384, Integer.MIN_VALUE, Integer.MAX_VALUE}) {
            Check.same("worked(" + k + ")", x.worked(k), HangOrder.NONE);
        }
        x.touch(0);
        x.unlink(7, 8);
        Check.order("changes behind a work don't change it", x, 6, 8, 7);
        x.work();
        Check.order("the latest work alone", x, 0, 7);
        x.link(1, 1);
        x.work();
        Check.order("ringed ones are not among them", x);
        Check.end();
    }
}
