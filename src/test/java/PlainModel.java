import java.util.ArrayList;
import java.util.HashSet;
import java.util.List;
import java.util.Set;
import java.util.TreeMap;
import java.util.TreeSet;

/** The document's terms word by word, without regard to speed: what HangOrder is compared with. */
final class PlainModel {
    final TreeMap<Integer, TreeSet<Integer>> reads = new TreeMap<>();
    final TreeSet<Integer> touchedNow = new TreeSet<>();
    final List<Integer> order = new ArrayList<>();
    Set<Integer> ringedThen = new TreeSet<>();
    int foundThen;

    boolean link(int a, int b) {
        boolean isNew = readBy(a).add(b);
        if (isNew) {
            touchedNow.add(a);
        }
        return isNew;
    }

    boolean unlink(int a, int b) {
        boolean wasThere = readBy(a).remove(b);
        if (wasThere) {
            touchedNow.add(a);
        }
        return wasThere;
    }

    int clear(int a) {
        int before = readBy(a).size();
        readBy(a).clear();
        touchedNow.add(a);
        return before;
    }

    int work() {
        ringedThen = allRinged();
        TreeSet<Integer> due = allFound();
        foundThen = due.size();
        due.removeAll(ringedThen);
        foundThen -= due.size();
        order.clear();
        while (!due.isEmpty()) {
            int next = leastReady(due);
            due.remove(next);
            order.add(next);
        }
        touchedNow.clear();
        return order.size();
    }

    int readers(int a) {
        int count = 0;
        for (TreeSet<Integer> row : reads.values()) {
            count += row.contains(a) ? 1 : 0;
        }
        return count;
    }

    TreeSet<Integer> readBy(int a) {
        return reads.computeIfAbsent(a, key -> new TreeSet<>());
    }

    /** The object answers the same as this model; all nodes that were named stand in the row. */
    void compare(String at, HangOrder x, int[] nodes) {
        for (int a : nodes) {
            Check.same(at + " ringed " + a, x.ringed(a), ringedThen.contains(a));
            Check.same(at + " touched " + a, x.touched(a), touchedNow.contains(a));
            Check.same(at + " readers " + a, x.links(a, 0), readers(a));
            Check.same(at + " reads " + a, x.links(a, 1), readBy(a).size());
        }
        Check.same(at + " found", x.found(), foundThen);
        for (int k = 0; k <= nodes.length; k++) {
            int due = k < order.size() ? order.get(k) : HangOrder.NONE;
            Check.same(at + " worked " + k, x.worked(k), due);
        }
    }

    private int leastReady(TreeSet<Integer> due) {
        for (int node : due) {
            boolean isReady = true;
            for (int source : readBy(node)) {
                isReady &= !due.contains(source);
            }
            if (isReady) {
                return node;
            }
        }
        throw new AssertionError("no node is ready: " + due);
    }

    private TreeSet<Integer> allFound() {
        TreeSet<Integer> all = new TreeSet<>(touchedNow);
        for (int node : new ArrayList<>(reads.keySet())) {
            for (int source : hangsOn(node)) {
                if (touchedNow.contains(source)) {
                    all.add(node);
                }
            }
        }
        return all;
    }

    private Set<Integer> allRinged() {
        Set<Integer> onRing = new HashSet<>();
        for (int node : new ArrayList<>(reads.keySet())) {
            if (hangsOn(node).contains(node)) {
                onRing.add(node);
            }
        }
        Set<Integer> all = new TreeSet<>(onRing);
        for (int node : new ArrayList<>(reads.keySet())) {
            for (int source : hangsOn(node)) {
                if (onRing.contains(source)) {
                    all.add(node);
                }
            }
        }
        return all;
    }

    private Set<Integer> hangsOn(int node) {
        Set<Integer> all = new HashSet<>();
        List<Integer> open = new ArrayList<>(reads.getOrDefault(node, new TreeSet<>()));
        while (!open.isEmpty()) {
            int next = open.remove(open.size() - 1);
            if (all.add(next)) {
                open.addAll(reads.getOrDefault(next, new TreeSet<>()));
            }
        }
        return all;
    }
}
