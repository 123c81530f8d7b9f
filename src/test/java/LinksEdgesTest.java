/** Boundary cases of promise 10: links. */
public final class LinksEdgesTest {
    private static final int LAST = Check.LAST_NODE;
    private static final int[] OTHER_WHATS =
            {-1, 2, 3, -2, 256, 257, 65536, Integer.MIN_VALUE, Integer.MIN_VALUE + 1,
            Integer.MAX_VALUE};

    public static void main(String[] args) {
        readersAndReads();
        noneAndMany();
        noSuchNode();
        anotherWhat();
        noSuchNodeAndAnotherWhat();
        askingChangesNothing();
        Check.end();
    }

    private static void readersAndReads() {
        Check.sentence("How many nodes read a node (what 0), or it reads (1)");
        HangOrder x = new HangOrder();
        x.link(0, LAST);
        x.link(1, LAST);
        x.link(0, 1);
        x.link(0, 0);
        expect(x, 0, 1, 3);
        expect(x, 1, 1, 1);
        expect(x, LAST, 2, 0);
        Check.same("false for the second time", x.link(0, LAST), false);
        expect(x, 0, 1, 3);
        expect(x, LAST, 2, 0);
    }

    private static void noneAndMany() {
        Check.sentence("How many (none, and as many as 250 calls can make)");
        HangOrder x = new HangOrder();
        expect(x, 0, 0, 0);
        expect(x, LAST, 0, 0);
        for (int k = 0; k < 250; k++) {
            x.link(LAST, k);
            x.link(k, LAST);
        }
        expect(x, LAST, 250, 250);
        expect(x, 249, 1, 1);
        expect(x, 250, 0, 0);
        x.clear(LAST);
        expect(x, LAST, 250, 0);
    }

    private static void noSuchNode() {
        Check.sentence("NONE if there is no such node");
        HangOrder x = new HangOrder();
        for (int a : new int[] {0, 127, 128, LAST - 1, LAST}) {
            x.link(a, a);
        }
        for (int no : Check.NO_NODES) {
            expect(x, no, HangOrder.NONE, HangOrder.NONE);
            expect(new HangOrder(), no, HangOrder.NONE, HangOrder.NONE);
        }
        expect(x, 0, 1, 1);
        expect(x, LAST, 1, 1);
    }

    private static void anotherWhat() {
        Check.sentence("NONE for another what");
        HangOrder x = Prepared.make();
        for (int what : OTHER_WHATS) {
            for (int a : new int[] {0, 1, 5, LAST - 1, LAST}) {
                Check.same("links(" + a + ", " + what + ")", x.links(a, what), HangOrder.NONE);
            }
        }
    }

    private static void noSuchNodeAndAnotherWhat() {
        Check.sentence("NONE if there is no such node, or for another what (both)");
        HangOrder x = new HangOrder();
        for (int no : Check.NO_NODES) {
            for (int what : OTHER_WHATS) {
                Check.same("links(" + no + ", " + what + ")", x.links(no, what), HangOrder.NONE);
            }
        }
    }

    private static void askingChangesNothing() {
        Check.sentence("links only answers");
        HangOrder x = Prepared.make();
        for (int what : OTHER_WHATS) {
            x.links(0, what);
        }
        for (int no : Check.NO_NODES) {
            x.links(no, 0);
            x.links(no, 1);
        }
        Prepared.expectNoChange("links", x);
    }

    private static void expect(HangOrder x, int a, int readers, int reads) {
        Check.same("links(" + a + ", 0)", x.links(a, 0), readers);
        Check.same("links(" + a + ", 1)", x.links(a, 1), reads);
    }
}
