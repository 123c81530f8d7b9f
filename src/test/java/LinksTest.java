/** Promise 10: links. */
public final class LinksTest {
    public static void main(String[] args) {
        HangOrder x = new HangOrder();
        x.link(1, 2);
        x.link(1, 3);
        x.link(4, 3);
        x.link(3, 3);
        expect(x, 1, 0, 2);
        expect(x, 2, 1, 0);
        expect(x, 3, 3, 1);
        expect(x, 4, 0, 1);
        expect(x, 5, 0, 0);
        x.work();
        expect(x, 3, 3, 1);
        x.unlink(1, 3);
        expect(x, 1, 0, 1);
        expect(x, 3, 2, 1);
        x.clear(3);
        expect(x, 3, 1, 0);
        for (int what : new int[] {-1, 2, 3, Integer.MIN_VALUE, Integer.MAX_VALUE}) {
            Check.same("links(3, " + what + ")", x.links(3, what), HangOrder.NONE);
            Check.same("links(99, " + what + ")", x.links(99, what), HangOrder.NONE);
        }
        for (int no : Check.NO_NODES) {
            expect(x, no, HangOrder.NONE, HangOrder.NONE);
            Check.same("links(" + no + ", 2)", x.links(no, 2), HangOrder.NONE);
        }
        Check.end();
    }

    private static void expect(HangOrder x, int a, int readers, int reads) {
        Check.same("links(" + a + ", 0)", x.links(a, 0), readers);
        Check.same("links(" + a + ", 1)", x.links(a, 1), reads);
    }
}
