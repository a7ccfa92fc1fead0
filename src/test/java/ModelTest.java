import java.util.Random;

/** All promises: random runs of up to 512 calls, each answer against the one of Model. */
public final class ModelTest {
    private static final int RUNS = 1500;
    /** Calls that are kept for the state at the end of a run. */
    private static final int AT_THE_END = 100;
    private static final long[] EDGES = {
        0, 1, 23, 24, 255, 256, 65535, 65536, 4294967295L, 4294967296L, Long.MAX_VALUE,
        -1, -24, -25, -256, -257, -65536, -65537, -4294967296L, -4294967297L, Long.MIN_VALUE,
    };
    /** First bytes of heads, and bytes that make good and bad ones of them. */
    private static final int[] PIECES = {
        0x00, 0x17, 0x18, 0x19, 0x1a, 0x1b, 0x1c, 0x20, 0x38, 0x3b, 0x40, 0x41, 0x48, 0x58, 0x59,
        0x60, 0x80, 0x81, 0x82, 0x83, 0x98, 0x99, 0x9b, 0xa0, 0xa1, 0xa2, 0xb8, 0xbb, 0xc0, 0xd8,
        0xd9, 0xda, 0xe0, 0x79, 0x7f, 0x05, 0x78, 0xff, 0x01, 0x3f, 0xc7,
    };

    private final Random random;
    private final Counted x = new Counted();
    private final Model m = new Model();
    /** Runs differ in how much they build, and in how much of it they keep. */
    private final int drops;
    private final int copies;
    private final int feeds;

    private ModelTest(long seed) {
        random = new Random(seed);
        drops = random.nextInt(8);
        copies = random.nextInt(12);
        feeds = random.nextInt(12);
    }

    public static void main(String[] args) {
        for (int run = 0; run < RUNS; run++) {
            ModelTest test = new ModelTest(run);
            for (int call = 0; test.x.left() > AT_THE_END + 20; call++) {
                test.call("run " + run + ", call " + call + ": ");
            }
            test.stateAtTheEnd("run " + run + " at its end: ");
        }
        Check.end();
    }

    private int small() {
        int r = random.nextInt(40);
        return r == 0 ? random.nextInt() : r == 1 ? Integer.MIN_VALUE + random.nextInt(3) : r - 3;
    }

    /** An item's number, seldom a wrong one. */
    private int anItem() {
        return random.nextInt(10) == 0 ? small() : random.nextInt(Math.max(1, m.stack.size()));
    }

    private int aNode(int i) {
        int have = i < 0 || i >= m.stack.size() ? 1 : m.node(i, 0, 3);
        return random.nextInt(12) == 0 ? have : random.nextInt(12) == 0 ? small() : random.nextInt(have);
    }

    private int aCount() {
        int r = random.nextInt(10);
        return r == 0 ? small() : r < 5 ? random.nextInt(4) : random.nextInt(m.stack.size() + 1);
    }

    private long aLong() {
        int r = random.nextInt(4);
        return r == 0 ? EDGES[random.nextInt(EDGES.length)] : r == 1 ? random.nextLong()
            : r == 2 ? random.nextInt(300) - 150 : random.nextLong() >> random.nextInt(64);
    }

    private int eight() {
        int r = random.nextInt(12);
        return r < 3 ? 8 : r == 3 ? small() : random.nextInt(9);
    }

    private void call(String what) {
        int r = random.nextInt(60 + drops + copies + feeds);
        if (r < 20) {
            build(what, r);
        } else if (r < 30) {
            row(what, r - 20);
        } else if (r < 38) {
            int want = m.read();
            Check.due(what + "read()", x.read(), want);
        } else if (r < 60) {
            ask(what, r - 38);
        } else if (r < 60 + drops) {
            boolean want = m.drop();
            Check.due(what + "drop()", x.drop(), want);
        } else if (r < 60 + drops + copies) {
            int i = anItem();
            boolean want = m.copy(i);
            Check.due(what + "copy(" + i + ")", x.copy(i), want);
        } else {
            feed(what);
        }
        int which = random.nextInt(8);
        Check.due(what + "look(" + which + ") then", x.look(which), m.look(which));
    }

    private void build(String what, int r) {
        long v = aLong();
        int n = eight();
        int count = aCount();
        if (r < 3) {
            Check.due(what + "integer(" + v + ")", x.integer(v), m.integer(v));
        } else if (r < 6) {
            Check.due(what + "bytes(" + v + ", " + n + ")", x.bytes(v, n), m.bytes(v, n));
        } else if (r < 10) {
            for (int times = r == 6 ? random.nextInt(12) : 0; times >= 0; times--) {
                Check.due(what + "more(" + v + ", " + n + ")", x.more(v, n), m.more(v, n));
                n = eight();
            }
        } else if (r < 13) {
            Check.due(what + "list(" + count + ")", x.list(count), m.list(count));
        } else if (r < 15) {
            int pairs = random.nextBoolean() ? count : count / 2;
            Check.due(what + "map(" + pairs + ")", x.map(pairs), m.map(pairs));
        } else if (r < 17) {
            int number = random.nextInt(4) == 0 ? random.nextInt(10) - 1 : random.nextInt(131) - 1;
            boolean got = x.constructor(number, count);
            Check.due(what + "constructor(" + number + ", " + count + ")", got, m.constructor(number, count));
        } else {
            Check.due(what + "open()", x.open(), m.open());
        }
    }

    private void row(String what, int r) {
        if (r < 4) {
            Check.due(what + "write()", x.write(), m.write());
        } else if (r == 4) {
            if (random.nextInt(3) == 0) {
                x.clear();
                m.clear();
            }
        } else if (r < 7) {
            x.turn();
            m.turn();
        } else if (r == 7) {
            int n = random.nextInt(4) == 0 ? small() : random.nextInt(m.in.size() + 2);
            Check.due(what + "cut(" + n + ")", x.cut(n), m.cut(n));
        } else {
            long v = aLong();
            int n = eight();
            Check.due(what + "give(" + v + ", " + n + ")", x.give(v, n), m.give(v, n));
        }
    }

    private void ask(String what, int r) {
        int i = anItem();
        int k = aNode(i);
        if (r < 8) {
            int w = random.nextInt(10) == 0 ? small() : random.nextInt(6);
            askNode(what + "node(" + i + ", " + k + ", " + w + ")", i, k, w);
        } else if (r < 12) {
            askValue(what + "value(" + i + ", " + k + ")", i, k);
        } else if (r < 15) {
            int j = random.nextInt(5) == 0 ? small() : random.nextInt(66);
            Check.due(what + "byteAt(" + i + ", " + k + ", " + j + ")", x.byteAt(i, k, j), m.byteAt(i, k, j));
        } else if (r < 18) {
            askCompare(what, i, anItem());
        } else if (r < 21) {
            int n = random.nextInt(6) == 0 ? small() : random.nextInt(m.out.size() + 1);
            Check.due(what + "output(" + n + ")", x.output(n), m.output(n));
        } else {
            int which = small();
            Check.due(what + "look(" + which + ")", x.look(which), m.look(which));
        }
    }

    private void askNode(String what, int i, int k, int w) {
        int thrown = 0;
        int want = 0;
        try {
            want = m.node(i, k, w);
        } catch (RuntimeException e) {
            thrown = Check.sort(e);
        }
        Check.due(what + " throws", Check.thrownByNode(x, i, k, w), thrown);
        if (thrown == 0) {
            Check.due(what, x.node(i, k, w), want);
        }
    }

    private void askValue(String what, int i, int k) {
        int thrown = 0;
        long want = 0;
        try {
            want = m.value(i, k);
        } catch (RuntimeException e) {
            thrown = Check.sort(e);
        }
        Check.due(what + " throws", Check.thrownByValue(x, i, k), thrown);
        if (thrown == 0) {
            Check.due(what, x.value(i, k), want);
        }
    }

    private void askCompare(String what, int a, int b) {
        int thrown = 0;
        int want = 0;
        try {
            want = m.compare(a, b);
        } catch (RuntimeException e) {
            thrown = Check.sort(e);
        }
        Check.due(what + "compare throws", Check.thrownByCompare(x, a, b), thrown);
        if (thrown == 0) {
            Check.due(what + "compare(" + a + ", " + b + ")", x.compare(a, b), want);
        }
    }

    /** Bytes that are nearly data: pieces of heads, a wide list, a deep one, or a byte changed. */
    private void feed(String what) {
        if (random.nextInt(3) == 0) {
            int n = random.nextBoolean() ? 0 : random.nextInt(m.in.size() + 1);
            Check.due(what + "cut(" + n + ")", x.cut(n), m.cut(n));
        }
        switch (random.nextInt(4)) {
            case 0:
                give(what, pieces());
                break;
            case 1:
                give(what, wide());
                break;
            case 2:
                give(what, deep());
                break;
            default:
                changeOne(what);
        }
    }

    private int[] pieces() {
        int[] bytes = new int[1 + random.nextInt(30)];
        for (int k = 0; k < bytes.length; k++) {
            bytes[k] = PIECES[random.nextInt(PIECES.length)];
        }
        return bytes;
    }

    private int[] wide() {
        int n = random.nextInt(3) == 0 ? 196 + random.nextInt(6) : 24 + random.nextInt(200);
        int[] bytes = new int[n + 5];
        bytes[0] = random.nextBoolean() ? 0x98 : 0xb8;
        bytes[1] = n;
        for (int k = 2; k < bytes.length; k++) {
            bytes[k] = random.nextInt(60) == 0 ? 0x81 : random.nextInt(24);
        }
        return bytes;
    }

    private int[] deep() {
        int n = 8 + random.nextInt(7);
        int b = random.nextBoolean() ? 0x81 : 0xa1;
        int[] bytes = new int[2 * n];
        for (int k = 0; k < n; k++) {
            bytes[k] = b;
            bytes[n + k] = random.nextInt(24);
        }
        return bytes;
    }

    /** As few calls as may be, and only as long as there are enough left for the end. */
    private void give(String what, int[] bytes) {
        for (int from = 0; from < bytes.length && x.left() > AT_THE_END; from += 8) {
            int n = Math.min(8, bytes.length - from);
            long v = 0;
            for (int j = from; j < from + n; j++) {
                v = v << 8 | bytes[j];
            }
            Check.due(what + "give(" + v + ", " + n + ")", x.give(v, n), m.give(v, n));
        }
    }

    /** The output becomes the input, but for one byte; what stands behind that comes by give. */
    private void changeOne(String what) {
        x.turn();
        m.turn();
        if (m.in.isEmpty()) {
            return;
        }
        int size = m.in.size();
        int n = random.nextBoolean() ? random.nextInt(size) : Math.max(0, size - 1 - random.nextInt(100));
        Check.due(what + "cut(" + n + ")", x.cut(n), m.cut(n));
        int[] rest = m.out.subList(n, size).stream().mapToInt(b -> b).toArray();
        rest[0] = random.nextBoolean() ? random.nextInt(256) : PIECES[random.nextInt(PIECES.length)];
        give(what, rest);
    }

    /** Of all that can be asked of the state, as much as there are calls left, at random. */
    private void stateAtTheEnd(String what) {
        for (int which = 0; which < 8; which++) {
            Check.due(what + "look(" + which + ")", x.look(which), m.look(which));
        }
        while (x.left() > 0) {
            if (m.stack.isEmpty() || random.nextInt(6) == 0) {
                int k = random.nextInt(m.out.size() + 1);
                Check.due(what + "output(" + k + ")", x.output(k), m.output(k));
            } else {
                askTheStack(what);
            }
        }
    }

    private void askTheStack(String what) {
        int i = random.nextInt(m.stack.size());
        int k = random.nextInt(m.node(i, 0, 3));
        int w = random.nextInt(7);
        if (w < 6) {
            Check.due(what + "node(" + i + ", " + k + ", " + w + ")", x.node(i, k, w), m.node(i, k, w));
        } else if (m.node(i, k, 0) == 0) {
            Check.due(what + "value(" + i + ", " + k + ")", x.value(i, k), m.value(i, k));
        } else {
            int j = random.nextInt(m.node(i, k, 1) + 1);
            Check.due(what + "byteAt(" + i + ", " + k + ", " + j + ")", x.byteAt(i, k, j), m.byteAt(i, k, j));
        }
    }
}
