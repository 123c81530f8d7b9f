import java.util.Arrays;

/**
 * What has to be worked out anew in a workbook, and in which order: nodes that read others, some of
 * which changed; each is worked out once, behind all that it reads; those on rings, and those that
 * hang on rings, are told.
 */
public final class HangOrder {
    /** Nothing there. */
    public static final int NONE = -1;

    private static final int NODES = 16384;
    private static final int MOST_LINKS = 65536;
    private static final int WHAT_READERS = 0;
    private static final int WHAT_READS = 1;

    private final NodeTable nodes = new NodeTable();
    private final Numbers touchedRow = new Numbers();
    private final Numbers foundRow = new Numbers();
    private final Numbers workedRow = new Numbers();
    private final LeastFirst ready = new LeastFirst();
    private int linkCount;
    private int ringedCount;

    /** No links, none touched. */
    public HangOrder() {
    }

    /** Node a reads b, and is touched; false if it reads b already (then it isn't touched by this). */
    public boolean link(int a, int b) throws IllegalArgumentException, IllegalStateException {
        requireNode(a);
        requireNode(b);
        if (linkBetween(a, b) != null) {
            return false;
        }
        if (linkCount >= MOST_LINKS) {
            throw new IllegalStateException("65536 links are there");
        }
        Node reader = nodes.of(a);
        new Link(reader, nodes.of(b)).fasten();
        linkCount++;
        markTouched(reader);
        return true;
    }

    /** Node a doesn't read b any more, and is touched; false if it doesn't read b. */
    public boolean unlink(int a, int b) throws IllegalArgumentException {
        requireNode(a);
        requireNode(b);
        Link gone = linkBetween(a, b);
        if (gone == null) {
            return false;
        }
        gone.loosen();
        linkCount--;
        markTouched(gone.reader);
        return true;
    }

    /** Node a reads nothing any more, and is touched, even if it read nothing: how many it read. */
    public int clear(int a) throws IllegalArgumentException {
        requireNode(a);
        Node reader = nodes.of(a);
        int before = reader.readCount;
        Link gone = reader.firstRead;
        while (gone != null) {
            Link next = gone.nextRead;
            gone.loosen();
            gone = next;
        }
        linkCount -= before;
        markTouched(reader);
        return before;
    }

    /** Node a is touched. */
    public void touch(int a) throws IllegalArgumentException {
        requireNode(a);
        markTouched(nodes.of(a));
    }

    /** Works: how many nodes were worked out. */
    public int work() {
        foundRow.empty();
        workedRow.empty();
        findTouched();
        findHanging();
        countWaiting();
        workOutReady();
        settleRinged();
        return workedRow.size;
    }

    /** The k-th node (from 0) that was worked out by the latest work; NONE if there is none. */
    public int worked(int k) {
        return workedRow.at(k);
    }

    /** How many nodes the latest work found ringed. */
    public int found() {
        return ringedCount;
    }

    /** Whether a node was ringed at the latest work; false if there is no such node. */
    public boolean ringed(int a) {
        Node node = nodes.at(a);
        return node != null && node.isRinged;
    }

    /** How many nodes read a node (what 0), or it reads (1); NONE for no such node or another what. */
    public int links(int a, int what) {
        if (!isNode(a) || (what != WHAT_READERS && what != WHAT_READS)) {
            return NONE;
        }
        Node node = nodes.at(a);
        if (node == null) {
            return 0;
        }
        return what == WHAT_READERS ? node.readerCount : node.readCount;
    }

    /** Whether a node is touched; false if there is no such node. */
    public boolean touched(int a) {
        Node node = nodes.at(a);
        return node != null && node.isTouched;
    }

    private static boolean isNode(int a) {
        return a >= 0 && a < NODES;
    }

    private static void requireNode(int a) {
        if (!isNode(a)) {
            throw new IllegalArgumentException("there is no such node");
        }
    }

    private Link linkBetween(int a, int b) {
        Node reader = nodes.at(a);
        if (reader == null) {
            return null;
        }
        Link link = reader.firstRead;
        while (link != null && link.source.number != b) {
            link = link.nextRead;
        }
        return link;
    }

    private void markTouched(Node node) {
        if (!node.isTouched) {
            node.isTouched = true;
            touchedRow.add(node.number);
        }
    }

    private void markFound(Node node) {
        if (!node.isFound) {
            node.isFound = true;
            foundRow.add(node.number);
        }
    }

    private void findTouched() {
        for (int k = 0; k < touchedRow.size; k++) {
            Node node = nodes.of(touchedRow.at(k));
            node.isTouched = false;
            markFound(node);
        }
        touchedRow.empty();
    }

    /** The row grows while it is walked, but holds each node once, so NODES bounds the walk. */
    private void findHanging() {
        for (int k = 0; k < NODES && k < foundRow.size; k++) {
            Node node = nodes.of(foundRow.at(k));
            for (Link link = node.firstReader; link != null; link = link.nextReader) {
                markFound(link.reader);
            }
        }
    }

    private void countWaiting() {
        for (int k = 0; k < foundRow.size; k++) {
            Node node = nodes.of(foundRow.at(k));
            node.waiting = readsToWaitFor(node);
            if (node.waiting == 0) {
                ready.put(node.number);
            }
        }
    }

    /**
     * A ringed node that was not found is waited for too: it is never worked out, so that whatever
     * hangs on it stays waiting. No link on its way has changed, or it would have been found; so it
     * is still what the latest work told of it.
     */
    private static int readsToWaitFor(Node node) {
        int count = 0;
        for (Link link = node.firstRead; link != null; link = link.nextRead) {
            if (link.source.isFound || link.source.isRinged) {
                count++;
            }
        }
        return count;
    }

    private void workOutReady() {
        for (int k = 0; k < foundRow.size && !ready.isEmpty(); k++) {
            Node node = nodes.of(ready.take());
            workedRow.add(node.number);
            for (Link link = node.firstReader; link != null; link = link.nextReader) {
                releaseOnce(link.reader);
            }
        }
    }

    private void releaseOnce(Node reader) {
        reader.waiting--;
        if (reader.waiting == 0) {
            ready.put(reader.number);
        }
    }

    /** What still waits when nothing is ready waits for a ring. */
    private void settleRinged() {
        for (int k = 0; k < foundRow.size; k++) {
            Node node = nodes.of(foundRow.at(k));
            node.isFound = false;
            node.isRinged = node.waiting > 0;
        }
        ringedCount = foundRow.size - workedRow.size;
    }

    /** One node that was named by a call, with its links in both directions. */
    private static final class Node {
        final int number;
        Link firstRead;
        Link firstReader;
        int readCount;
        int readerCount;
        boolean isTouched;
        boolean isRinged;
        /** Found by the work that is under way; false outside of work. */
        boolean isFound;
        /** How many of the nodes it reads must be worked out first; of use within work alone. */
        int waiting;

        Node(int number) {
            this.number = number;
        }
    }

    /** That one node reads another: it stands in the reader's chain and in the source's chain. */
    private static final class Link {
        final Node reader;
        final Node source;
        Link previousRead;
        Link nextRead;
        Link previousReader;
        Link nextReader;

        Link(Node reader, Node source) {
            this.reader = reader;
            this.source = source;
        }

        void fasten() {
            joinReader();
            joinSource();
        }

        void loosen() {
            leaveReader();
            leaveSource();
        }

        private void joinReader() {
            nextRead = reader.firstRead;
            if (nextRead != null) {
                nextRead.previousRead = this;
            }
            reader.firstRead = this;
            reader.readCount++;
        }

        private void joinSource() {
            nextReader = source.firstReader;
            if (nextReader != null) {
                nextReader.previousReader = this;
            }
            source.firstReader = this;
            source.readerCount++;
        }

        private void leaveReader() {
            if (previousRead == null) {
                reader.firstRead = nextRead;
            } else {
                previousRead.nextRead = nextRead;
            }
            if (nextRead != null) {
                nextRead.previousRead = previousRead;
            }
            reader.readCount--;
        }

        private void leaveSource() {
            if (previousReader == null) {
                source.firstReader = nextReader;
            } else {
                previousReader.nextReader = nextReader;
            }
            if (nextReader != null) {
                nextReader.previousReader = previousReader;
            }
            source.readerCount--;
        }
    }

    /** The nodes by number, in pages made when they are needed: a new object stays small. */
    private static final class NodeTable {
        private static final int PAGE_BITS = 7;
        private static final int PAGE_SIZE = 1 << PAGE_BITS;
        private static final int PAGE_MASK = PAGE_SIZE - 1;
        private static final int PAGES = NODES / PAGE_SIZE;
        private static final int PAGES_MASK = PAGES - 1;

        private final Page[] pages = new Page[PAGES];

        /** The node, or null if no call has named it yet or there is no such node. */
        Node at(int number) {
            if (!isNode(number)) {
                return null;
            }
            Page page = pages[pageIndex(number)];
            return page == null ? null : page.row[number & PAGE_MASK];
        }

        /** The node, made if it wasn't named yet; the number is known to be a node's. */
        Node of(int number) {
            int index = pageIndex(number);
            Page page = pages[index];
            if (page == null) {
                page = new Page();
                pages[index] = page;
            }
            Node node = page.row[number & PAGE_MASK];
            if (node == null) {
                node = new Node(number);
                page.row[number & PAGE_MASK] = node;
            }
            return node;
        }

        private static int pageIndex(int number) {
            return (number >> PAGE_BITS) & PAGES_MASK;
        }
    }

    private static final class Page {
        final Node[] row = new Node[NodeTable.PAGE_SIZE];
    }

    /** A row of node numbers that grows as it is filled, and is used again when it was emptied. */
    private static final class Numbers {
        private static final int FIRST_LENGTH = 16;

        private int[] row = new int[FIRST_LENGTH];
        int size;

        /** No row ever holds a node twice; the test on NODES keeps the new length in bounds. */
        void add(int number) {
            if (size >= NODES) {
                return;
            }
            if (size >= row.length) {
                row = Arrays.copyOf(row, 2 * size);
            }
            row[size] = number;
            size++;
        }

        int at(int k) {
            return isIndex(k) ? row[k] : NONE;
        }

        void set(int k, int number) {
            if (isIndex(k)) {
                row[k] = number;
            }
        }

        /** The last number, taken away; NONE if the row is empty. */
        int takeLast() {
            int last = at(size - 1);
            if (size > 0) {
                size--;
            }
            return last;
        }

        void empty() {
            size = 0;
        }

        private boolean isIndex(int k) {
            return k >= 0 && k < size && k < row.length;
        }
    }

    /** Numbers of which the least is taken first: a heap, as many nodes may be ready at once. */
    private static final class LeastFirst {
        private final Numbers heap = new Numbers();

        boolean isEmpty() {
            return heap.size == 0;
        }

        void put(int number) {
            heap.add(number);
            int place = heap.size - 1;
            while (place > 0) {
                int above = (place - 1) >> 1;
                if (heap.at(above) <= number) {
                    break;
                }
                heap.set(place, heap.at(above));
                place = above;
            }
            heap.set(place, number);
        }

        /** The least number, taken away; NONE if there is none. */
        int take() {
            int least = heap.at(0);
            int last = heap.takeLast();
            sinkFromTop(last);
            return least;
        }

        private void sinkFromTop(int number) {
            int place = 0;
            while (2 * place + 1 < heap.size) {
                int below = lesserBelow(place);
                if (heap.at(below) >= number) {
                    break;
                }
                heap.set(place, heap.at(below));
                place = below;
            }
            heap.set(place, number);
        }

        private int lesserBelow(int place) {
            int left = 2 * place + 1;
            int right = left + 1;
            return right < heap.size && heap.at(right) < heap.at(left) ? right : left;
        }
    }
}
