/** Promise 8: found. */
public final class FoundTest {
    public static void main(String[] args) {
        HangOrder x = new HangOrder();
        x.link(5, 5);
        Check.same("before the first work", x.found(), 0);
        x.link(6, 5);
        x.link(7, 8);
        x.work();
        Check.same("the ring and what hangs on it", x.found(), 2);
        x.clear(5);
        Check.same("changes behind a work don't change it", x.found(), 2);
        x.link(5, 5);
        x.touch(7);
        x.work();
        Check.same("found anew", x.found(), 2);
        x.touch(6);
        x.work();
        Check.same("only what this work found", x.found(), 1);
        x.touch(7);
        x.work();
        Check.same("no ringed one found, though some are", x.found(), 0);
        Check.end();
    }
}
