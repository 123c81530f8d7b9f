/** An object with links, a ring, a latest work and touched nodes, and all that it must answer. */
final class Prepared {
    private static final int LAST = Check.LAST_NODE;
    private static final int[] NODES = {0, 1, 5, 6, 7, 8, LAST - 1, LAST};
    private static final int[] READERS = {1, 0, 2, 0, 1, 0, 0, 1};
    private static final int[] READS = {1, 0, 1, 1, 1, 1, 0, 0};

    private Prepared() {
    }

    /** 8 reads 7, which reads 0, which reads the last node; 6 reads 5, which reads itself. */
    static HangOrder make() {
        HangOrder x = new HangOrder();
        x.link(0, LAST);
        x.link(5, 5);
        x.link(6, 5);
        x.link(7, 0);
        x.work();
        x.link(8, 7);
        x.touch(LAST);
        return x;
    }

    /** Nothing has changed since make. */
    static void expectAsMade(String behind, HangOrder x) {
        expectLinks(behind, x);
        for (int a : NODES) {
            Check.same(behind + ": touched(" + a + ")", x.touched(a), a == 8 || a == LAST);
        }
        expectRinged(behind, x);
        Check.same(behind + ": found", x.found(), 2);
        Check.order(behind, x, 0, 7);
    }

    /** The next work answers what it must if nothing has changed since make. */
    static void expectNextWork(String behind, HangOrder x) {
        Check.same(behind + ": next work", x.work(), 4);
        Check.order(behind + ": next work", x, LAST, 0, 7, 8);
        Check.same(behind + ": next found", x.found(), 0);
        for (int a : NODES) {
            Check.same(behind + ": then touched(" + a + ")", x.touched(a), false);
        }
        expectLinks(behind, x);
        expectRinged(behind, x);
    }

    /** A call was refused, or only asked: nothing has changed, and later calls answer as due. */
    static void expectNoChange(String behind, HangOrder x) {
        expectAsMade(behind, x);
        expectNextWork(behind, x);
        Check.same(behind + ": link(1, 0)", x.link(1, 0), true);
        Check.same(behind + ": link(0, last)", x.link(0, LAST), false);
        Check.same(behind + ": unlink(1, 0)", x.unlink(1, 0), true);
        Check.same(behind + ": clear(6)", x.clear(6), 1);
        x.touch(0);
        Check.same(behind + ": last work", x.work(), 5);
        Check.order(behind + ": last work", x, 0, 1, 6, 7, 8);
    }

    private static void expectLinks(String behind, HangOrder x) {
        for (int k = 0; k < NODES.length; k++) {
            int a = NODES[k];
            Check.same(behind + ": links(" + a + ", 0)", x.links(a, 0), READERS[k]);
            Check.same(behind + ": links(" + a + ", 1)", x.links(a, 1), READS[k]);
        }
    }

    private static void expectRinged(String behind, HangOrder x) {
        for (int a : NODES) {
            Check.same(behind + ": ringed(" + a + ")", x.ringed(a), a == 5 || a == 6);
        }
    }
}
