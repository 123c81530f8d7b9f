/** Promises 2 to 11 together: long mixed runs, each answer compared with the plain model's. */
public final class AgainstPlainModelTest {
    private static final int RUNS = 300;
    private static final int CALLS = 512;

    private long seed;
    private final HangOrder x = new HangOrder();
    private final PlainModel model = new PlainModel();
    private final int[] nodes;

    /** Nodes are 0, step, 2 * step, .. so that some runs stay narrow and some use all nodes. */
    private AgainstPlainModelTest(int run) {
        seed = run * 7919L + 1;
        nodes = new int[3 + next(run % 3 == 0 ? 6 : 60)];
        int step = run % 2 == 0 ? 1 : Check.LAST_NODE / nodes.length;
        for (int k = 0; k < nodes.length; k++) {
            nodes[k] = k * step;
        }
    }

    public static void main(String[] args) {
        for (int run = 0; run < RUNS; run++) {
            AgainstPlainModelTest test = new AgainstPlainModelTest(run);
            int linksInHundred = 15 + test.next(60);
            for (int call = 0; call < CALLS; call++) {
                test.change("run " + run + " call " + call, linksInHundred);
            }
        }
        Check.end();
    }

    /** Fixed numbers that look mixed: the same calls in each run of the test. */
    private int next(int bound) {
        seed = seed * 6364136223846793005L + 1442695040888963407L;
        return (int) ((seed >>> 33) % bound);
    }

    private int node() {
        return nodes[next(nodes.length)];
    }

    private void change(String at, int linksInHundred) {
        int a = node();
        int b = node();
        if (next(100) < linksInHundred) {
            Check.same(at + " link", x.link(a, b), model.link(a, b));
            return;
        }
        switch (next(8)) {
            case 0, 1, 2 -> Check.same(at + " unlink", x.unlink(a, b), model.unlink(a, b));
            case 3 -> Check.same(at + " clear", x.clear(a), model.clear(a));
            case 4, 5 -> {
                x.touch(a);
                model.touchedNow.add(a);
            }
            default -> Check.same(at + " work", x.work(), model.work());
        }
        model.compare(at, x, nodes);
    }
}
