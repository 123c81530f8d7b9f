/** Counts and prints the answers of one test that are not as due. */
final class Check {
    /** A call whose exception is asked for. */
    interface Call {
        void make();
    }

    static final int LAST_NODE = 16383;
    /** Beside the nodes, both ends of int, and numbers that a mask would make a node of. */
    static final int[] NO_NODES = {-1, 16384, Integer.MIN_VALUE, Integer.MAX_VALUE,
        -2, -128, -16383, -16384, -16385, 16385, 16384 + 128, 32767, 32768, 65536, 1 << 24,
        Integer.MIN_VALUE + 1, Integer.MAX_VALUE - 1, Integer.MIN_VALUE + LAST_NODE};

    private static int wrong;
    private static String sentence = "";

    private Check() {
    }

    /** The document's words that the checks from here on are about; they are told with a fault. */
    static void sentence(String words) {
        sentence = "[" + words + "] ";
    }

    static void same(String what, long got, long want) {
        if (got != want) {
            wrong++;
            System.out.println(sentence + what + " answered " + got + ", due is " + want);
        }
    }

    static void same(String what, boolean got, boolean want) {
        same(what, got ? 1 : 0, want ? 1 : 0);
    }

    static void refusesArgument(String what, Call call) {
        refuses(what, call, IllegalArgumentException.class);
    }

    static void refusesState(String what, Call call) {
        refuses(what, call, IllegalStateException.class);
    }

    /** The nodes that the latest work worked out are these, in this order, and no others. */
    static void order(String what, HangOrder x, int... nodes) {
        for (int k = 0; k < nodes.length; k++) {
            same(what + ": worked(" + k + ")", x.worked(k), nodes[k]);
        }
        same(what + ": worked behind the last", x.worked(nodes.length), HangOrder.NONE);
    }

    static void end() {
        if (wrong > 0) {
            System.out.println(wrong + " answers are not as due");
            System.exit(1);
        }
    }

    private static void refuses(String what, Call call, Class<? extends RuntimeException> due) {
        String got = "nothing";
        try {
            call.make();
        } catch (RuntimeException e) {
            got = e.getClass().getName();
        }
        if (!got.equals(due.getName())) {
            wrong++;
            System.out.println(sentence + what + " threw " + got + ", due is " + due.getName());
        }
    }
}
