/**
 * Boundary cases of promise 2: "IllegalStateException: 65536 links are there (and this would be one
 * more)". A call makes one link at most, so 512 calls can't come there: this is a longer run, of which
 * the document promises nothing, and the sentence is kept all the same.
 */
public final class MostLinksEdgesTest {
    private static final int MOST_LINKS = 65536;
    private static final int READERS = 128;
    private static final int READS = MOST_LINKS / READERS;
    private static final int FIRST_SOURCE = 1000;
    private static final int LAST = Check.LAST_NODE;

    public static void main(String[] args) {
        Check.sentence("IllegalStateException: 65536 links are there (and this would be one more)");
        theLastOneIsTaken();
        oneMoreIsRefused();
        refusedOneChangesNothing();
        whatIsThereIsNotOneMore();
        noSuchNodeGoesFirst();
        onlyWhatGoesMakesRoom();
        refusedAndFalseOnesAreNotCounted();
        Check.end();
    }

    /** Nodes 0 to 127 read 512 nodes each, but the last of them leaves some out. */
    private static HangOrder withLinks(int count) {
        HangOrder x = new HangOrder();
        for (int k = 0; k < count; k++) {
            Check.same("link number " + k, x.link(k / READS, FIRST_SOURCE + k % READS), true);
        }
        return x;
    }

    private static void theLastOneIsTaken() {
        HangOrder x = withLinks(MOST_LINKS - 1);
        Check.same("link number 65535", x.link(LAST, 0), true);
        Check.same("it is there", x.links(LAST, 1), 1);
        Check.same("it touched", x.touched(LAST), true);
        Check.refusesState("link number 65536", () -> x.link(LAST, 1));
    }

    private static void oneMoreIsRefused() {
        HangOrder x = withLinks(MOST_LINKS);
        Check.refusesState("of a node that reads nothing", () -> x.link(LAST, 0));
        Check.refusesState("of a node that reads", () -> x.link(0, LAST));
        Check.refusesState("of itself", () -> x.link(LAST, LAST));
        Check.refusesState("a second time", () -> x.link(LAST, 0));
    }

    private static void refusedOneChangesNothing() {
        HangOrder x = withLinks(MOST_LINKS);
        Check.same("work", x.work(), READERS);
        Check.refusesState("link(last, 0)", () -> x.link(LAST, 0));
        Check.refusesState("link(0, last)", () -> x.link(0, LAST));
        for (int a : new int[] {0, LAST}) {
            Check.same("touched", x.touched(a), false);
            Check.same("readers", x.links(a, 0), 0);
            Check.same("reads", x.links(a, 1), a == 0 ? READS : 0);
        }
        Check.same("worked(0)", x.worked(0), 0);
        Check.same("worked(127)", x.worked(READERS - 1), READERS - 1);
        Check.same("worked(128)", x.worked(READERS), HangOrder.NONE);
        x.touch(FIRST_SOURCE);
        Check.same("work of a full object", x.work(), READERS + 1);
        Check.same("found in a full object", x.found(), 0);
    }

    private static void whatIsThereIsNotOneMore() {
        HangOrder x = withLinks(MOST_LINKS);
        x.work();
        Check.same("the first link again", x.link(0, FIRST_SOURCE), false);
        Check.same("the last link again", x.link(READERS - 1, FIRST_SOURCE + READS - 1), false);
        Check.same("touches nothing: 0", x.touched(0), false);
        Check.same("touches nothing: 127", x.touched(READERS - 1), false);
    }

    private static void noSuchNodeGoesFirst() {
        HangOrder x = withLinks(MOST_LINKS);
        for (int no : Check.NO_NODES) {
            Check.refusesArgument("link(" + no + ", 0)", () -> x.link(no, 0));
            Check.refusesArgument("link(0, " + no + ")", () -> x.link(0, no));
        }
    }

    private static void onlyWhatGoesMakesRoom() {
        HangOrder x = withLinks(MOST_LINKS);
        Check.same("unlink of what is not there", x.unlink(0, LAST), false);
        Check.same("clear of what reads nothing", x.clear(LAST), 0);
        Check.refusesState("no room by these", () -> x.link(LAST, 0));
        Check.same("unlink", x.unlink(0, FIRST_SOURCE), true);
        Check.same("room by unlink", x.link(LAST, 0), true);
        Check.refusesState("room for one", () -> x.link(LAST, 1));
        Check.same("clear", x.clear(1), READS);
        for (int k = 0; k < READS; k++) {
            Check.same("room by clear", x.link(200, k), true);
        }
        Check.refusesState("room for as many as it read", () -> x.link(200, LAST));
    }

    private static void refusedAndFalseOnesAreNotCounted() {
        HangOrder x = withLinks(MOST_LINKS - 1);
        Check.same("there already", x.link(0, FIRST_SOURCE), false);
        Check.refusesArgument("no such node", () -> x.link(0, -1));
        Check.refusesArgument("no such node", () -> x.unlink(0, -1));
        Check.same("not there", x.unlink(0, LAST), false);
        Check.same("nothing read", x.clear(LAST), 0);
        x.work();
        Check.same("room for one still", x.link(LAST, 0), true);
        Check.refusesState("and for no more", () -> x.link(LAST, 1));
    }
}
