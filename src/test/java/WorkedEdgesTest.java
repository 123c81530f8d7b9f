/** Boundary cases of promise 7: worked. */
public final class WorkedEdgesTest {
    private static final int LAST = Check.LAST_NODE;
    private static final int[] NEVER =
            {-1, -2, Integer.MIN_VALUE, Integer.MIN_VALUE + 1, Integer.MAX_VALUE, LAST, LAST + 1};

    public static void main(String[] args) {
        firstLastAndBehind();
        fewerThanBefore();
        noneAtAll();
        bothEndsOfTheNodes();
        askingChangesNothing();
        Check.end();
    }

    private static void firstLastAndBehind() {
        Check.sentence("The k-th node; NONE if there is none");
        for (int count : new int[] {1, 2, 15, 16, 17, 31, 32, 33, 127, 128, 129, 490}) {
            HangOrder x = new HangOrder();
            for (int a = count; a > 0; a--) {
                x.touch(a);
            }
            Check.same("work of " + count, x.work(), count);
            Check.same("the first of " + count, x.worked(0), 1);
            Check.same("the last of " + count, x.worked(count - 1), count);
            Check.same("behind the last of " + count, x.worked(count), HangOrder.NONE);
            Check.same("two behind the last of " + count, x.worked(count + 1), HangOrder.NONE);
            expectNever(count + " worked out", x);
        }
    }

    private static void fewerThanBefore() {
        Check.sentence("by the latest work; NONE if there is none");
        HangOrder x = new HangOrder();
        for (int a = 0; a < 40; a++) {
            x.touch(a);
        }
        x.work();
        x.touch(30);
        x.touch(35);
        x.work();
        Check.order("two behind forty", x, 30, 35);
        for (int k = 2; k < 41; k++) {
            Check.same("worked(" + k + ")", x.worked(k), HangOrder.NONE);
        }
        expectNever("two behind forty", x);
    }

    private static void noneAtAll() {
        Check.sentence("NONE if there is none (the latest work worked out none)");
        HangOrder x = new HangOrder();
        expectNever("before the first work", x);
        Check.same("worked(0) before the first work", x.worked(0), HangOrder.NONE);
        x.touch(5);
        Check.same("worked(0) of a touched object", x.worked(0), HangOrder.NONE);
        x.work();
        Check.same("worked(0) of one", x.worked(0), 5);
        x.work();
        Check.same("worked(0) of none touched", x.worked(0), HangOrder.NONE);
        expectNever("none touched", x);
        x.touch(5);
        x.work();
        x.link(5, 5);
        x.work();
        Check.same("worked(0) of a ring alone", x.worked(0), HangOrder.NONE);
        expectNever("a ring alone", x);
    }

    private static void bothEndsOfTheNodes() {
        Check.sentence("The k-th node (0 and 16383 are nodes)");
        HangOrder x = new HangOrder();
        x.touch(LAST);
        x.touch(0);
        x.work();
        Check.order("both ends", x, 0, LAST);
        expectNever("both ends", x);
    }

    private static void askingChangesNothing() {
        Check.sentence("worked only answers");
        HangOrder x = Prepared.make();
        expectNever("prepared", x);
        Check.same("worked(2)", x.worked(2), HangOrder.NONE);
        Prepared.expectNoChange("worked", x);
    }

    private static void expectNever(String at, HangOrder x) {
        for (int k : NEVER) {
            Check.same(at + ": worked(" + k + ")", x.worked(k), HangOrder.NONE);
        }
    }
}
