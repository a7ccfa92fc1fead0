import java.util.Arrays;

/** Promises 17 to 20 and 22: what is asked of data, and of the state. */
public final class AskTest {
    private static final int[] WRONG = {Integer.MIN_VALUE, -2, -1, 16, 1000, Integer.MAX_VALUE};

    public static void main(String[] args) {
        node();
        nodeThrows();
        value();
        byteAt();
        compare();
        compareLongBytes();
        compareBuiltWithRead();
        compareThrows();
        compareEveryPair();
        look();
        Check.end();
    }

    /** Item 1: an integer. Item 0: constructor 3 of a map of bytes to a list, and an empty list. */
    private static Counted two() {
        Counted x = new Counted();
        x.integer(-77);
        x.bytes(0xf1f2f3, 3);
        x.integer(4);
        x.list(0);
        x.list(2);
        x.map(1);
        x.list(0);
        x.constructor(3, 2);
        return x;
    }

    private static void node() {
        Counted x = two();
        Check.nodes("constructor", x, 0, 0, 6, 2, 3, 7, 4, -1);
        Check.nodes("map", x, 0, 1, 5, 1, -1, 5, 3, 0);
        Check.nodes("bytes", x, 0, 2, 2, 3, -1, 1, 1, 1);
        Check.nodes("list", x, 0, 3, 4, 2, -1, 3, 2, 1);
        Check.nodes("integer", x, 0, 4, 0, -1, -1, 1, 1, 3);
        Check.nodes("empty list in it", x, 0, 5, 4, 0, -1, 1, 1, 3);
        Check.nodes("empty list", x, 0, 6, 4, 0, -1, 1, 1, 0);
        Check.nodes("the item below", x, 1, 0, 0, -1, -1, 1, 1, -1);
        int[] others = {Integer.MIN_VALUE, -1, 6, 7, Integer.MAX_VALUE};
        for (int w : others) {
            Check.due("node(0, 0, " + w + ")", x.node(0, 0, w), -1);
            Check.due("node(0, 6, " + w + ")", x.node(0, 6, w), -1);
        }
    }

    private static void nodeThrows() {
        Counted x = two();
        for (int n : WRONG) {
            Check.due("node of item " + n, Check.thrownByNode(x, n, 0, 0), Check.INDEX);
            Check.due("node " + n, Check.thrownByNode(x, 0, n, 0), Check.INDEX);
            Check.due("any other w of item " + n, Check.thrownByNode(x, n, 0, 99), Check.INDEX);
        }
        Check.due("item 2 of 2", Check.thrownByNode(x, 2, 0, 0), Check.INDEX);
        Check.due("node 7 of 7", Check.thrownByNode(x, 0, 7, 0), Check.INDEX);
        Check.due("node 7 of 7, any other w", Check.thrownByNode(x, 0, 7, -1), Check.INDEX);
        Check.due("node 1 of 1", Check.thrownByNode(x, 1, 1, 0), Check.INDEX);
        Check.due("node 6 of 7", Check.thrownByNode(x, 0, 6, 0), 0);
        Check.due("none", Check.thrownByNode(new Counted(), 0, 0, 0), Check.INDEX);
        Check.looks("nothing has changed", x, 2, 8, 0, 0, 0, 0, -1, 12);
    }

    private static void value() {
        Counted x = two();
        Check.due("value of the item below", x.value(1, 0), -77);
        Check.due("value within", x.value(0, 4), 4);
        for (int k : new int[] {0, 1, 2, 3, 5, 6}) {
            Check.due("value of node " + k, Check.thrownByValue(x, 0, k), Check.ARGUMENT);
        }
        for (int n : WRONG) {
            Check.due("value of item " + n, Check.thrownByValue(x, n, 0), Check.INDEX);
            Check.due("value of node " + n, Check.thrownByValue(x, 0, n), Check.INDEX);
        }
        Check.due("item 2 of 2", Check.thrownByValue(x, 2, 0), Check.INDEX);
        Check.due("node 7 of 7", Check.thrownByValue(x, 0, 7), Check.INDEX);
        Check.due("node 1 of 1", Check.thrownByValue(x, 1, 1), Check.INDEX);
        Check.due("none", Check.thrownByValue(new Counted(), 0, 0), Check.INDEX);
    }

    private static void byteAt() {
        Counted x = two();
        Check.due("byte 0", x.byteAt(0, 2, 0), 0xf1);
        Check.due("byte 2", x.byteAt(0, 2, 2), 0xf3);
        Check.due("byte 3", x.byteAt(0, 2, 3), -1);
        for (int n : WRONG) {
            Check.due("byte " + n, x.byteAt(0, 2, n), -1);
            Check.due("of node " + n, x.byteAt(0, n, 0), -1);
            Check.due("of item " + n, x.byteAt(n, 2, 0), -1);
        }
        for (int k : new int[] {0, 1, 3, 4, 5, 6, 7}) {
            Check.due("a byte of node " + k, x.byteAt(0, k, 0), -1);
        }
        Check.due("of item 2 of 2", x.byteAt(2, 0, 0), -1);
        Check.due("of none", new Counted().byteAt(0, 0, 0), -1);
        x.bytes(0, 0);
        Check.due("of no bytes", x.byteAt(0, 0, 0), -1);
    }

    private static void compare() {
        Counted x = new Counted();
        x.integer(5);
        Check.due("with itself", x.compare(0, 0), 0);
        x.integer(-1);
        Check.due("-1 behind 5", x.compare(0, 1), 1);
        Check.due("5 ahead of -1", x.compare(1, 0), -1);
        x.integer(300);
        Check.due("300 behind 5", x.compare(0, 2), 1);
        Check.due("300 ahead of -1", x.compare(0, 1), -1);
        x.bytes(0x80, 1);
        x.bytes(0x7f, 1);
        Check.due("a byte of 128 behind one of 127", x.compare(1, 0), 1);
        x.bytes(0, 2);
        Check.due("more bytes behind fewer", x.compare(0, 1), 1);
        x.constructor(127, 0);
        x.constructor(6, 0);
        Check.due("constructor 6 ahead of 127", x.compare(0, 1), -1);
        x.list(2);
        x.list(0);
        Check.due("an empty list ahead", x.compare(0, 1), -1);
        Check.due("a list behind bytes", x.compare(0, 2), 1);
        x.map(0);
        Check.due("an empty map behind a list of two", x.compare(0, 2), 1);
        for (int last = 1; last <= 2; last++) {
            x.integer(5);
            x.bytes(last, 1);
            x.list(2);
        }
        Check.due("the second of a list", x.compare(0, 1), 1);
        sameButForTheLast();
    }

    private static void sameButForTheLast() {
        Counted x = new Counted();
        for (int last = 1; last <= 3; last++) {
            x.bytes(-1, 8);
            x.more(-1, 8);
            x.constructor(9, 1);
            x.integer(1000);
            x.bytes(0x0102030405060708L, 8);
            x.more(0xff00 + last % 3, 2);
            x.list(3);
        }
        Check.due("the last byte, 2 to 0", x.compare(1, 0), 1);
        Check.due("the last byte, 1 to 2", x.compare(2, 1), -1);
        Check.due("the last byte, 0 to 1", x.compare(0, 2), -1);
        x.copy(1);
        Check.due("the same", x.compare(0, 2), 0);
    }

    private static void compareLongBytes() {
        Counted x = new Counted();
        long[] ends = {0x200, 0x2ff, 0x300, 0x200};
        for (long end : ends) {
            x.bytes(0, 8);
            for (int n = 1; n < 7; n++) {
                x.more(n, 8);
            }
            x.more(end, 8);
        }
        Check.due("the same 64 bytes", x.compare(0, 3), 0);
        Check.due("byte 63 of 64", x.compare(0, 2), -1);
        Check.due("byte 63 of 64, the other way", x.compare(2, 0), 1);
        Check.due("byte 62 of 64", x.compare(1, 2), 1);
        Check.due("byte 62 of 64, the other way", x.compare(2, 1), -1);
    }

    /** Nothing of how nodes came to be may count: only the last one differs. */
    private static void compareBuiltWithRead() {
        Counted x = new Counted();
        for (int last = 0; last < 3; last++) {
            x.integer(5);
            x.integer(-300);
            x.bytes(0x77, 1);
            x.list(0);
            x.map(0);
            x.constructor(4, 0);
            x.integer(last);
            x.list(7);
        }
        Check.feed(x, 0x87, 5, 0x39, 1, 43, 0x41, 0x77, 0x80, 0xa0, 0xd8, 0x7d, 0x80, 1);
        Check.due("read the second one", x.read(), 0);
        Check.due("against the first", x.compare(0, 3), 1);
        Check.due("against the second", x.compare(0, 2), 0);
        Check.due("against the third", x.compare(0, 1), -1);
    }

    private static void compareThrows() {
        Counted x = two();
        for (int n : WRONG) {
            Check.due("compare item " + n, Check.thrownByCompare(x, n, 0), Check.INDEX);
            Check.due("compare with item " + n, Check.thrownByCompare(x, 0, n), Check.INDEX);
            Check.due("compare item " + n + " with itself", Check.thrownByCompare(x, n, n), Check.INDEX);
        }
        Check.due("item 2 of 2", Check.thrownByCompare(x, 2, 1), Check.INDEX);
        Check.due("with item 2 of 2", Check.thrownByCompare(x, 1, 2), Check.INDEX);
        Check.due("items 1 and 0", Check.thrownByCompare(x, 1, 0), 0);
        Check.due("none", Check.thrownByCompare(new Counted(), 0, 0), Check.INDEX);
    }

    /** All pairs of 16 items, against the bytes that they have in the output. */
    private static void compareEveryPair() {
        Counted x = new Counted();
        sixteen(x);
        Counted y = new Counted();
        sixteen(y);
        int[][] written = new int[16][];
        for (int i = 0; i < 16; i++) {
            y.clear();
            written[i] = new int[y.write()];
            for (int k = 0; k < written[i].length; k++) {
                written[i][k] = y.output(k);
            }
            y.drop();
        }
        for (int a = 0; a < 16; a++) {
            for (int b = 0; b < 16; b++) {
                int want = Integer.signum(Arrays.compare(written[a], written[b]));
                Check.due("compare(" + a + ", " + b + ")", x.compare(a, b), want);
            }
        }
    }

    private static void sixteen(Counted x) {
        long[] integers = {0, 23, 24, 256, -1, -300, Long.MIN_VALUE};
        for (long v : integers) {
            x.integer(v);
        }
        x.bytes(0, 0);
        x.bytes(0x00, 1);
        x.bytes(0xff, 1);
        x.bytes(0x0000, 2);
        x.map(0);
        x.constructor(1, 0);
        x.constructor(99, 0);
        x.list(0);
        x.integer(0);
        x.list(1);
    }

    private static void look() {
        Counted x = two();
        Check.looks("two", x, 2, 8, 0, 0, 0, 0, -1, 12);
        x.write();
        x.write();
        Check.looks("written twice", x, 2, 8, 24, 0, 0, 0, -1, 12);
        x.turn();
        x.read();
        Check.looks("read once", x, 3, 15, 24, 24, 12, 0, -1, 12);
        x.cut(13);
        Check.looks("cut", x, 3, 15, 24, 13, 0, 0, -1, 12);
        x.read();
        Check.due("half a head", x.read(), 1);
        Check.looks("a fault", x, 4, 22, 24, 13, 12, 1, 13, 12);
        int[] others = {Integer.MIN_VALUE, -1, 8, 9, 99, Integer.MAX_VALUE};
        for (int which : others) {
            Check.due("look(" + which + ")", x.look(which), -1);
        }
        for (int n = 0; n < 4; n++) {
            x.drop();
        }
        Check.looks("without a top", x, 0, 0, 24, 13, 12, 1, 13, -1);
    }
}
