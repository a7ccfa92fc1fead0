/** States that tests begin with: stacks and rows that are empty, full, or short of full by a little. */
final class States {
    static final int ITEMS = 16;
    static final int NODES = 1000;
    static final int ROW = 4096;

    /** Ints that are no count, no index and no number; twice some of them is a small int again. */
    static final int[] FAR_OFF = {
        Integer.MIN_VALUE, Integer.MIN_VALUE + 1, Integer.MIN_VALUE + 2, -1073741824, -1073741823, -4096, -256,
        256, 4097, 65536, 1073741824, 1073741825, Integer.MAX_VALUE - 1, Integer.MAX_VALUE,
    };

    private States() {
    }

    static void nothing(Counted x) {
        Check.due("a new stack", x.look(0), 0);
    }

    /**
     * Nothing on the stack, but bytes in both rows, and a fault.
     * The output: 42 ab cd. The input: 01, 81 02, and from AT, 3, on 58 41, which is fault 3.
     */
    static void rows(Counted x) {
        x.bytes(0xabcd, 2);
        Check.due("rows: write()", x.write(), 3);
        x.drop();
        x.give(0x0181025841L, 5);
        Check.due("rows: read 01", x.read(), 0);
        Check.due("rows: read 81 02", x.read(), 0);
        x.drop();
        x.drop();
        Check.due("rows: read 58 41", x.read(), 3);
    }

    /** The rows, and two items: an integer below a list, which has bytes and an integer. */
    static void two(Counted x) {
        rows(x);
        x.integer(-77);
        x.bytes(0xf1f2f3, 3);
        x.integer(4);
        x.list(2);
    }

    /** The rows, and so many integers, 100 the deepest. */
    static Still.Steps integers(int n) {
        return x -> {
            rows(x);
            for (int v = 0; v < n; v++) {
                x.integer(100 + v);
            }
        };
    }

    /** The rows, and a stack of so many nodes, in as few items as may be. */
    static Still.Steps nodes(int n) {
        return x -> {
            rows(x);
            fill(x, n);
        };
    }

    static void fill(Counted x, int nodes) {
        if (nodes >= 200) {
            tree(x, 200, 5);
        }
        for (int n = 2; n <= nodes / 200; n++) {
            x.copy(0);
        }
        if (nodes % 200 > 0) {
            tree(x, nodes % 200, 7);
        }
        Check.due("nodes of the stack", x.look(1), nodes);
    }

    /** One item of so many nodes comes, with few more on the stack meanwhile, and far from too deep. */
    static void tree(Counted x, int nodes, long v) {
        if (nodes == 1) {
            x.integer(v);
        } else if (nodes == 2) {
            x.integer(v);
            x.list(1);
        } else if (nodes % 2 == 1) {
            tree(x, (nodes - 1) / 2, v + 1);
            x.copy(0);
            x.list(2);
        } else {
            tree(x, (nodes - 2) / 2, v + 1);
            x.copy(0);
            x.integer(v);
            x.list(3);
        }
    }

    /** One item comes that is so deep: an integer within lists. */
    static void chain(Counted x, int depth) {
        x.integer(3);
        for (int d = 2; d <= depth; d++) {
            Check.yes("a list of depth " + d, x.list(1));
        }
    }

    /** Bytes come, so many. */
    static void text(Counted x, int n) {
        x.bytes(0x1112131415161718L, n % 8);
        for (int have = n % 8; have < n; have += 8) {
            Check.yes("more to " + (have + 8), x.more(0x2122232425262728L + have, 8));
        }
    }

    /** These bytes come to the input, in as few calls as may be. */
    static void give(Counted x, int... bytes) {
        for (int from = 0; from < bytes.length; from += 8) {
            int n = Math.min(8, bytes.length - from);
            long v = 0;
            for (int j = from; j < from + n; j++) {
                v = v << 8 | bytes[j];
            }
            Check.yes("give " + n, x.give(v, n));
        }
    }

    /** So many bytes more come to the output; the stack, which must have room, stays. */
    static void outputOf(Counted x, int n) {
        text(x, 64);
        for (int times = 0; times < n / 66; times++) {
            x.write();
        }
        x.drop();
        for (int rest = n % 66; rest > 0; ) {
            int bytes = rest >= 26 ? rest - 2 : Math.min(rest - 1, 23);
            text(x, bytes);
            rest -= x.look(7);
            x.write();
            x.drop();
        }
        Check.due("bytes of the output", x.look(2), n);
    }

    /** The input has so many bytes, all of them bytes of data; the output is empty. */
    static void inputOf(Counted x, int n) {
        outputOf(x, n);
        x.turn();
        x.clear();
        Check.due("bytes of the input", x.look(3), n);
    }
}
