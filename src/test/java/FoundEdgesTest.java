/** Boundary cases of promise 8: found. */
public final class FoundEdgesTest {
    private static final int LAST = Check.LAST_NODE;

    public static void main(String[] args) {
        none();
        oneAtEachEnd();
        latestWorkAlone();
        notWhatIsRingedButNotFound();
        changesBehindTheWork();
        many();
        Check.end();
    }

    private static void none() {
        Check.sentence("How many nodes the latest work found ringed (none)");
        HangOrder x = new HangOrder();
        Check.same("before the first work", x.found(), 0);
        x.link(3, 3);
        Check.same("a ring before the first work", x.found(), 0);
        HangOrder y = new HangOrder();
        y.work();
        Check.same("nothing touched", y.found(), 0);
        y.link(LAST, 0);
        y.touch(0);
        y.work();
        Check.same("no ring", y.found(), 0);
    }

    private static void oneAtEachEnd() {
        Check.sentence("How many nodes the latest work found ringed (one, two)");
        for (int a : new int[] {0, LAST}) {
            HangOrder x = new HangOrder();
            x.link(a, a);
            x.work();
            Check.same("one that reads itself", x.found(), 1);
        }
        HangOrder y = new HangOrder();
        y.link(0, LAST);
        y.link(LAST, 0);
        y.work();
        Check.same("two that read each other", y.found(), 2);
    }

    private static void latestWorkAlone() {
        Check.sentence("the latest work");
        HangOrder x = new HangOrder();
        x.link(1, 1);
        x.link(2, 1);
        x.link(3, 2);
        x.work();
        Check.same("three", x.found(), 3);
        x.touch(2);
        x.work();
        Check.same("two of them", x.found(), 2);
        x.work();
        Check.same("none of them", x.found(), 0);
        x.clear(1);
        x.work();
        Check.same("no ring any more", x.found(), 0);
    }

    private static void notWhatIsRingedButNotFound() {
        Check.sentence("found ringed (not: is ringed)");
        HangOrder x = new HangOrder();
        x.link(1, 1);
        x.work();
        x.link(2, 1);
        x.work();
        Check.same("2, as 1 isn't touched and doesn't hang on 2", x.found(), 1);
        Check.same("1 is ringed still", x.ringed(1), true);
    }

    private static void changesBehindTheWork() {
        Check.sentence("the latest work found (later calls don't change it)");
        HangOrder x = new HangOrder();
        x.link(1, 1);
        x.link(2, 1);
        x.work();
        x.clear(2);
        x.unlink(1, 1);
        x.link(7, 7);
        x.touch(9);
        Check.refusesArgument("touch(-1)", () -> x.touch(-1));
        Check.refusesArgument("link(16384, 0)", () -> x.link(LAST + 1, 0));
        Check.same("found", x.found(), 2);
        Check.same("found asked again", x.found(), 2);
        x.work();
        Check.same("found by the next work", x.found(), 1);
    }

    private static void many() {
        Check.sentence("How many nodes the latest work found ringed (as many as 500 calls can make)");
        HangOrder x = new HangOrder();
        x.link(0, 0);
        for (int a = 1; a < 500; a++) {
            x.link(a * 32, (a - 1) * 32);
        }
        x.work();
        Check.same("all hang on 0", x.found(), 500);
        x.clear(0);
        Check.same("work", x.work(), 500);
        Check.same("none any more", x.found(), 0);
    }
}
