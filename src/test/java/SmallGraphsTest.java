/**
 * Promises 2 to 11 together: every set of links among three nodes, then every single change of it,
 * compared with the plain model. So each small ring, and each way of hanging on one, is seen.
 */
public final class SmallGraphsTest {
    private static final int[] NODES = {0, 1, Check.LAST_NODE};
    private static final int PAIRS = NODES.length * NODES.length;
    private static final int TOUCHES = 1 << NODES.length;
    private static final int CHANGES = PAIRS + NODES.length + TOUCHES;

    private final HangOrder x = new HangOrder();
    private final PlainModel model = new PlainModel();
    private final String name;

    private SmallGraphsTest(String name) {
        this.name = name;
    }

    public static void main(String[] args) {
        for (int set = 0; set < 1 << PAIRS; set++) {
            for (int change = 0; change < CHANGES; change++) {
                SmallGraphsTest test = new SmallGraphsTest("set " + set + " change " + change);
                test.linkAll(set);
                test.work();
                test.change(change);
                test.model.compare(test.name, test.x, NODES);
                test.work();
            }
        }
        Check.end();
    }

    private void linkAll(int set) {
        for (int pair = 0; pair < PAIRS; pair++) {
            if ((set >> pair & 1) == 1) {
                Check.same(name + ": link", x.link(reader(pair), source(pair)),
                        model.link(reader(pair), source(pair)));
            }
        }
    }

    /** First the pairs, linked or unlinked; then a node cleared; then each set of nodes touched. */
    private void change(int change) {
        if (change < PAIRS) {
            toggle(reader(change), source(change));
        } else if (change < PAIRS + NODES.length) {
            int a = NODES[change - PAIRS];
            Check.same(name + ": clear", x.clear(a), model.clear(a));
        } else {
            touchAll(change - PAIRS - NODES.length);
        }
    }

    private void toggle(int a, int b) {
        boolean isNew = model.link(a, b);
        Check.same(name + ": link", x.link(a, b), isNew);
        if (!isNew) {
            Check.same(name + ": unlink", x.unlink(a, b), model.unlink(a, b));
        }
    }

    private void touchAll(int set) {
        for (int k = 0; k < NODES.length; k++) {
            if ((set >> k & 1) == 1) {
                x.touch(NODES[k]);
                model.touchedNow.add(NODES[k]);
            }
        }
    }

    private void work() {
        Check.same(name + ": work", x.work(), model.work());
        model.compare(name, x, NODES);
    }

    private static int reader(int pair) {
        return NODES[pair / NODES.length];
    }

    private static int source(int pair) {
        return NODES[pair % NODES.length];
    }
}
