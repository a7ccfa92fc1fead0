/**
 * Promises 17 to 20 and 22 at their edges: the first and the last item, node, byte and question, and
 * those beyond them; and that asking, also in vain, changes nothing.
 */
public final class EdgeAskTest {
    public static void main(String[] args) {
        nodeItems();
        nodeNodes();
        nodeQuestions();
        nodeHasNone();
        nodeNumbering();
        nodeAround();
        nodeGreatest();
        valueIndices();
        valueOfOthers();
        valueFirstException();
        byteAtItemsAndNodes();
        byteAtBytes();
        byteAtOthers();
        compareItems();
        compareByteByByte();
        compareInner();
        compareWithoutSign();
        compareOneBeginsLikeTheOther();
        compareLastNode();
        compareChangesNothing();
        lookQuestions();
        lookAtEachEnd();
        lookWritten();
        Check.end();
    }

    /** Three items. 2: constructor 6 of two. 1: bytes, 64. 0: a map of a list of two to an integer. */
    private static void three(Counted x) {
        States.rows(x);
        x.integer(11);
        x.integer(-12);
        x.constructor(6, 2);
        States.text(x, 64);
        x.integer(21);
        x.bytes(0x313233, 3);
        x.list(2);
        x.integer(Long.MIN_VALUE);
        x.map(1);
    }

    private static Counted madeThree() {
        Counted x = new Counted();
        three(x);
        return x;
    }

    /** node: "IndexOutOfBoundsException if there is no such item". */
    private static void nodeItems() {
        Counted x = madeThree();
        Check.due("item 0", x.node(0, 0, 0), 5);
        Check.due("item 1", x.node(1, 0, 0), 2);
        Check.due("item 2", x.node(2, 0, 0), 6);
        Still.thrown("item 3 of 3", EdgeAskTest::three, Check.INDEX, y -> y.node(3, 0, 0));
        Still.thrown("item -1", EdgeAskTest::three, Check.INDEX, y -> y.node(-1, 0, 0));
        Still.thrown("item 16 of 16", States.integers(16), Check.INDEX, y -> y.node(16, 0, 0));
        Still.thrown("item 0 of none", States::rows, Check.INDEX, y -> y.node(0, 0, 0));
        for (int i : States.FAR_OFF) {
            Still.thrown("item " + i, EdgeAskTest::three, Check.INDEX, y -> y.node(i, 0, 0));
        }
        x = new Counted();
        States.integers(16).on(x);
        Check.due("item 15 of 16", x.node(15, 0, 0), 0);
    }

    /** "or NODE": the last one of an item, and one that only another item has. */
    private static void nodeNodes() {
        Counted x = madeThree();
        Check.due("node 4 of 5", x.node(0, 4, 0), 0);
        Check.due("node 0 of 1", x.node(1, 0, 0), 2);
        Check.due("node 2 of 3", x.node(2, 2, 0), 0);
        Still.thrown("node 5 of 5", EdgeAskTest::three, Check.INDEX, y -> y.node(0, 5, 0));
        Still.thrown("node 1 of 1", EdgeAskTest::three, Check.INDEX, y -> y.node(1, 1, 0));
        Still.thrown("node 3 of 3", EdgeAskTest::three, Check.INDEX, y -> y.node(2, 3, 0));
        Still.thrown("node -1", EdgeAskTest::three, Check.INDEX, y -> y.node(1, -1, 0));
        for (int k : States.FAR_OFF) {
            Still.thrown("node " + k, EdgeAskTest::three, Check.INDEX, y -> y.node(0, k, 0));
        }
    }

    /** "NONE for any other w"; but without the item or NODE it is the exception, whatever w is. */
    private static void nodeQuestions() {
        Counted x = madeThree();
        Check.due("w = -1", x.node(0, 0, -1), -1);
        Check.due("w = 0", x.node(0, 0, 0), 5);
        Check.due("w = 4", x.node(0, 0, 4), 3);
        Check.due("w = 5", x.node(0, 4, 5), 0);
        Check.due("w = 6", x.node(0, 4, 6), -1);
        for (int w : States.FAR_OFF) {
            Still.none("w = " + w, EdgeAskTest::three, y -> y.node(0, 4, w));
        }
        for (int w : new int[] {-1, 6, 99}) {
            Still.thrown("item 3, w = " + w, EdgeAskTest::three, Check.INDEX, y -> y.node(3, 0, w));
            Still.thrown("node 5, w = " + w, EdgeAskTest::three, Check.INDEX, y -> y.node(0, 5, w));
        }
        Still.none("w = 6", EdgeAskTest::three, y -> y.node(0, 4, 6));
    }

    /** "or what it has none of": an INTEGER has no count, and only a CONSTRUCTOR has a number. */
    private static void nodeHasNone() {
        Counted x = madeThree();
        Check.due("count of an integer", x.node(0, 4, 1), -1);
        Check.due("number of a map", x.node(0, 0, 2), -1);
        Check.due("number of a list", x.node(0, 1, 2), -1);
        Check.due("number of an integer", x.node(0, 2, 2), -1);
        Check.due("number of bytes", x.node(1, 0, 2), -1);
        Check.due("number of a constructor", x.node(2, 0, 2), 6);
        x.list(0);
        Check.due("count of an empty list", x.node(0, 0, 1), 0);
        x.map(0);
        Check.due("count of an empty map", x.node(0, 0, 1), 0);
        x.bytes(0, 0);
        Check.due("count of no bytes", x.node(0, 0, 1), 0);
        x.constructor(0, 0);
        Check.due("count of no fields", x.node(0, 0, 1), 0);
        Check.due("number 0", x.node(0, 0, 2), 0);
    }

    /** "first the outermost, then what is within it, one behind the other (of a pair the key first)". */
    private static void nodeNumbering() {
        Counted x = madeThree();
        Check.nodes("map", x, 0, 0, 5, 1, -1, 5, 3, -1);
        Check.nodes("its key, a list", x, 0, 1, 4, 2, -1, 3, 2, 0);
        Check.nodes("an integer in it", x, 0, 2, 0, -1, -1, 1, 1, 1);
        Check.nodes("bytes in it", x, 0, 3, 2, 3, -1, 1, 1, 1);
        Check.nodes("the map's value", x, 0, 4, 0, -1, -1, 1, 1, 0);
        Check.nodes("64 bytes", x, 1, 0, 2, 64, -1, 1, 1, -1);
        Check.nodes("constructor", x, 2, 0, 6, 2, 6, 3, 2, -1);
        Check.due("its first field", x.value(2, 1), 11);
        Check.due("its second field", x.value(2, 2), -12);
    }

    /** "5: the NODE within which it is at once (NONE for 0)": behind empty and deep ones, too. */
    private static void nodeAround() {
        Counted x = new Counted();
        x.list(0);
        States.chain(x, 4);
        x.map(0);
        x.constructor(1, 0);
        x.bytes(0, 0);
        x.list(2);
        x.integer(1);
        x.list(5);
        int[] around = {-1, 0, 0, 2, 3, 4, 0, 0, 7, 7, 0};
        for (int k = 0; k < around.length; k++) {
            Check.due("round node " + k, x.node(0, k, 5), around[k]);
        }
        x.integer(2);
        Check.due("round another item", x.node(0, 0, 5), -1);
        Check.due("round the one below", x.node(1, 0, 5), -1);
    }

    /** At the limits: 200 NODES, a DEPTH of 12, 64 bytes, 199 DATA, 99 pairs. */
    private static void nodeGreatest() {
        Counted x = new Counted();
        Check.listOf(x, 200);
        Check.nodes("a list of 199", x, 0, 0, 4, 199, -1, 200, 2, -1);
        Check.nodes("its last", x, 0, 199, 0, -1, -1, 1, 1, 0);
        Check.due("no node 200", Check.thrownByNode(x, 0, 200, 0), Check.INDEX);
        States.chain(x, 12);
        for (int k = 0; k < 12; k++) {
            Check.due("depth of node " + k, x.node(0, k, 4), 12 - k);
            Check.due("nodes of node " + k, x.node(0, k, 3), 12 - k);
            Check.due("round node " + k, x.node(0, k, 5), k - 1);
        }
        x.integer(1);
        x.list(1);
        Check.due("the greatest depth counts, not the last", x.node(1, 0, 4), 12);
        x = new Counted();
        States.chain(x, 5);
        x.integer(1);
        x.list(2);
        Check.due("the first one is the deepest", x.node(0, 0, 4), 6);
        x.integer(1);
        States.chain(x, 8);
        x.constructor(2, 3);
        Check.due("the last one is the deepest", x.node(0, 0, 4), 9);
    }

    /** value: "IndexOutOfBoundsException if there is none such". */
    private static void valueIndices() {
        Counted x = madeThree();
        Check.due("value(0, 2)", x.value(0, 2), 21);
        Check.due("value(0, 4)", x.value(0, 4), Long.MIN_VALUE);
        Check.due("value(2, 2)", x.value(2, 2), -12);
        Still.thrown("value(3, 0)", EdgeAskTest::three, Check.INDEX, y -> y.value(3, 0));
        Still.thrown("value(-1, 0)", EdgeAskTest::three, Check.INDEX, y -> y.value(-1, 0));
        Still.thrown("value(0, 5)", EdgeAskTest::three, Check.INDEX, y -> y.value(0, 5));
        Still.thrown("value(0, -1)", EdgeAskTest::three, Check.INDEX, y -> y.value(0, -1));
        Still.thrown("value(2, 3)", EdgeAskTest::three, Check.INDEX, y -> y.value(2, 3));
        Still.thrown("value of none", States::rows, Check.INDEX, y -> y.value(0, 0));
        for (int n : States.FAR_OFF) {
            Still.thrown("value of item " + n, EdgeAskTest::three, Check.INDEX, y -> y.value(n, 0));
            Still.thrown("value of node " + n, EdgeAskTest::three, Check.INDEX, y -> y.value(0, n));
        }
    }

    /** "IllegalArgumentException if it is none": of each kind that is no INTEGER. */
    private static void valueOfOthers() {
        Still.thrown("value of a map", EdgeAskTest::three, Check.ARGUMENT, y -> y.value(0, 0));
        Still.thrown("value of a list", EdgeAskTest::three, Check.ARGUMENT, y -> y.value(0, 1));
        Still.thrown("value of bytes in a list", EdgeAskTest::three, Check.ARGUMENT, y -> y.value(0, 3));
        Still.thrown("value of bytes", EdgeAskTest::three, Check.ARGUMENT, y -> y.value(1, 0));
        Still.thrown("value of a constructor", EdgeAskTest::three, Check.ARGUMENT, y -> y.value(2, 0));
        Still.thrown("value of no bytes", y -> y.bytes(0, 0), Check.ARGUMENT, y -> y.value(0, 0));
    }

    /** "Of several exceptions the first one listed is thrown." */
    private static void valueFirstException() {
        Still.thrown("node 1 of bytes", EdgeAskTest::three, Check.INDEX, y -> y.value(1, 1));
        Still.thrown("node -1 of bytes", EdgeAskTest::three, Check.INDEX, y -> y.value(1, -1));
        Still.thrown("node 1 of an empty list", y -> y.list(0), Check.INDEX, y -> y.value(0, 1));
        Still.thrown("item 1 of one list", y -> y.list(0), Check.INDEX, y -> y.value(1, 0));
    }

    /** byteAt: "NONE if there is none such", whatever is missing. */
    private static void byteAtItemsAndNodes() {
        Counted x = madeThree();
        Check.due("byteAt(0, 3, 0)", x.byteAt(0, 3, 0), 0x31);
        Check.due("byteAt(1, 0, 0)", x.byteAt(1, 0, 0), 0x21);
        Still.none("item 3 of 3", EdgeAskTest::three, y -> y.byteAt(3, 0, 0));
        Still.none("item -1", EdgeAskTest::three, y -> y.byteAt(-1, 0, 0));
        Still.none("node 1 of bytes", EdgeAskTest::three, y -> y.byteAt(1, 1, 0));
        Still.none("node -1 of bytes", EdgeAskTest::three, y -> y.byteAt(1, -1, 0));
        Still.none("node 5 of 5", EdgeAskTest::three, y -> y.byteAt(0, 5, 0));
        Still.none("byte of none", States::rows, y -> y.byteAt(0, 0, 0));
        for (int n : States.FAR_OFF) {
            Still.none("item " + n, EdgeAskTest::three, y -> y.byteAt(n, 0, 0));
            Still.none("node " + n, EdgeAskTest::three, y -> y.byteAt(1, n, 0));
            Still.none("byte " + n, EdgeAskTest::three, y -> y.byteAt(1, 0, n));
        }
    }

    /** Byte j: the first, the last, and those beyond, of 0, 1, 8, 9 and 64 bytes. */
    private static void byteAtBytes() {
        for (int n : new int[] {1, 7, 8, 9, 16, 17, 63, 64}) {
            Counted x = new Counted();
            for (int v = 0; v < n; v++) {
                Check.yes("byte " + v, v == 0 ? x.bytes(200, 1) : x.more(200 - v, 1));
            }
            Check.due("byte -1 of " + n, x.byteAt(0, 0, -1), -1);
            for (int j = 0; j < n; j++) {
                Check.due("byte " + j + " of " + n, x.byteAt(0, 0, j), 200 - j);
            }
            Check.due("byte " + n + " of " + n, x.byteAt(0, 0, n), -1);
            Check.due("byte 64 of " + n, x.byteAt(0, 0, 64), -1);
        }
        Counted x = new Counted();
        x.bytes(0, 0);
        Check.due("byte 0 of none", x.byteAt(0, 0, 0), -1);
        x.bytes(0x00ff, 2);
        Check.due("a byte of 0", x.byteAt(0, 0, 0), 0);
        Check.due("a byte of 255", x.byteAt(0, 0, 1), 255);
    }

    /** "which is BYTES": of no other kind. */
    private static void byteAtOthers() {
        Still.none("byte of a map", EdgeAskTest::three, y -> y.byteAt(0, 0, 0));
        Still.none("byte of a list", EdgeAskTest::three, y -> y.byteAt(0, 1, 0));
        Still.none("byte of an integer", EdgeAskTest::three, y -> y.byteAt(0, 2, 0));
        Still.none("byte of a constructor", EdgeAskTest::three, y -> y.byteAt(2, 0, 0));
        Still.none("byte 64 of 64", EdgeAskTest::three, y -> y.byteAt(1, 0, 64));
        Still.none("byte -1 of 64", EdgeAskTest::three, y -> y.byteAt(1, 0, -1));
    }

    /** compare: "IndexOutOfBoundsException if there is no such item": a, b, or both. */
    private static void compareItems() {
        Counted x = madeThree();
        Check.due("compare(0, 2)", x.compare(0, 2), -1);
        Check.due("compare(2, 0)", x.compare(2, 0), 1);
        Check.due("compare(2, 2)", x.compare(2, 2), 0);
        Still.thrown("compare(3, 0)", EdgeAskTest::three, Check.INDEX, y -> y.compare(3, 0));
        Still.thrown("compare(0, 3)", EdgeAskTest::three, Check.INDEX, y -> y.compare(0, 3));
        Still.thrown("compare(-1, 0)", EdgeAskTest::three, Check.INDEX, y -> y.compare(-1, 0));
        Still.thrown("compare(0, -1)", EdgeAskTest::three, Check.INDEX, y -> y.compare(0, -1));
        Still.thrown("compare(3, 3)", EdgeAskTest::three, Check.INDEX, y -> y.compare(3, 3));
        Still.thrown("compare(-1, -1)", EdgeAskTest::three, Check.INDEX, y -> y.compare(-1, -1));
        Still.thrown("compare of none", States::rows, Check.INDEX, y -> y.compare(0, 0));
        for (int n : States.FAR_OFF) {
            Still.thrown("compare(" + n + ", 0)", EdgeAskTest::three, Check.INDEX, y -> y.compare(n, 0));
            Still.thrown("compare(0, " + n + ")", EdgeAskTest::three, Check.INDEX, y -> y.compare(0, n));
        }
    }

    /** The first steps' data lie ahead of the second's, and each is the same as itself. */
    private static void ahead(String what, Still.Steps first, Still.Steps second) {
        Counted x = new Counted();
        first.on(x);
        second.on(x);
        Check.due(what + ": first to second", x.compare(1, 0), -1);
        Check.due(what + ": second to first", x.compare(0, 1), 1);
        Check.due(what + ": second to itself", x.compare(0, 0), 0);
        first.on(x);
        Check.due(what + ": first to first", x.compare(2, 0), 0);
        Check.due(what + ": the other way", x.compare(0, 2), 0);
    }

    /** "How the bytes of item a lie to those of item b: -1, 0, 1, byte by byte from the first on". */
    private static void compareByteByByte() {
        long[] rising = {0, 1, 23, 24, 255, 256, 65535, 65536, 0xffffffffL, 0x100000000L, Long.MAX_VALUE};
        for (int n = 1; n < rising.length; n++) {
            long low = rising[n - 1];
            long high = rising[n];
            ahead(low + " and " + high, x -> x.integer(low), x -> x.integer(high));
            ahead(-1 - low + " and " + (-1 - high), x -> x.integer(-1 - low), x -> x.integer(-1 - high));
        }
        ahead("the greatest and -1", x -> x.integer(Long.MAX_VALUE), x -> x.integer(-1));
        ahead("the least and no bytes", x -> x.integer(Long.MIN_VALUE), x -> x.bytes(0, 0));
        ahead("64 bytes and an empty list", x -> States.text(x, 64), x -> x.list(0));
        ahead("a list and an empty map", EdgeAskTest::pair, x -> x.map(0));
        ahead("a map and constructor 0", x -> {
            pair(x);
            x.integer(1);
            x.map(1);
        }, x -> x.constructor(0, 0));
        ahead("constructors 6 and 7", x -> x.constructor(6, 0), x -> x.constructor(7, 0));
        ahead("constructors 126 and 127", x -> x.constructor(126, 0), x -> x.constructor(127, 0));
        ahead("constructor 5 of two and 6 of none", x -> {
            x.integer(1);
            x.integer(2);
            x.constructor(5, 2);
        }, x -> x.constructor(6, 0));
    }

    /** The outer ones are the same: what is within decides, and what is built is as what is read. */
    private static void compareInner() {
        ahead("bytes in a list", x -> within(x, 0x10), x -> within(x, 0x11));
        int[] bytes = {0x85, 0x41, 0x10, 0x39, 1, 0, 0x80, 0xa0, 0xd8, 123, 0x80};
        Counted x = new Counted();
        within(x, 0x0f);
        within(x, 0x10);
        within(x, 0x11);
        States.give(x, bytes);
        Check.due("read", x.read(), 0);
        Check.due("read to a lower one", x.compare(0, 3), 1);
        Check.due("read to the same", x.compare(0, 2), 0);
        Check.due("read to a higher one", x.compare(0, 1), -1);
    }

    /** A list of one of each kind, bytes first. */
    private static void within(Counted x, long b) {
        x.bytes(b, 1);
        x.integer(-257);
        x.list(0);
        x.map(0);
        x.constructor(2, 0);
        x.list(5);
    }

    private static void pair(Counted x) {
        x.integer(1);
        x.integer(2);
        x.list(2);
    }

    /** Bytes are 0 to 255: one of 128 lies behind one of 127, wherever they stand. */
    private static void compareWithoutSign() {
        ahead("bytes 7f and 80", x -> x.bytes(0x7f, 1), x -> x.bytes(0x80, 1));
        ahead("bytes 00 and ff", x -> x.bytes(0x00, 1), x -> x.bytes(0xff, 1));
        ahead("8 bytes, the first one", x -> x.bytes(0x7fffffffffffffffL, 8), x -> x.bytes(Long.MIN_VALUE, 8));
        ahead("127 and 128", x -> x.integer(127), x -> x.integer(128));
        ahead("2^31 - 1 and 2^31", x -> x.integer(0x7fffffffL), x -> x.integer(0x80000000L));
        for (int at = 0; at < 64; at += 9) {
            int bytes = at;
            ahead("byte " + at, x -> marked(x, bytes, 0x7f), x -> marked(x, bytes, 0x80));
        }
    }

    /** 64 bytes, of which one is this and the others are 55 in hex. */
    private static void marked(Counted x, int at, long b) {
        for (int n = 0; n < 8; n++) {
            long part = 0x5555555555555555L;
            if (at / 8 == n) {
                int shift = 56 - 8 * (at % 8);
                part = part & ~(255L << shift) | b << shift;
            }
            Check.yes("eight of 64", n == 0 ? x.bytes(part, 8) : x.more(part, 8));
        }
    }

    /** "(one that the other one begins with lies ahead)": of data the count in the head decides it. */
    private static void compareOneBeginsLikeTheOther() {
        ahead("no bytes and one", x -> x.bytes(0, 0), x -> x.bytes(0, 1));
        ahead("56 and 64 bytes", x -> States.text(x, 56), x -> States.text(x, 64));
        ahead("an empty list and a list of one", x -> x.list(0), x -> {
            x.integer(0);
            x.list(1);
        });
        ahead("a longer one with a lower byte", x -> x.bytes(0xff, 1), x -> x.bytes(0, 2));
        ahead("no fields and one", x -> x.constructor(3, 0), x -> {
            x.integer(0);
            x.constructor(3, 1);
        });
        ahead("no pairs and one", x -> x.map(0), x -> {
            x.integer(0);
            x.integer(0);
            x.map(1);
        });
    }

    /** All is the same but for the last of 200 nodes. */
    private static void compareLastNode() {
        for (int last = 0; last < 2; last++) {
            Counted x = new Counted();
            for (int n = 0; n < 2; n++) {
                x.cut(0);
                x.give(0x98c7, 2);
                for (int k = 0; k < 24; k++) {
                    x.give(0x0102030405060708L, 8);
                }
                x.give(0x01020304050607L - last * n, 7);
                Check.due("read 200 nodes", x.read(), 0);
            }
            Check.due("the last node is " + last + " less", x.compare(0, 1), -last);
            Check.due("the other way", x.compare(1, 0), last);
        }
    }

    private static void compareChangesNothing() {
        Counted x = madeThree();
        x.compare(0, 1);
        x.compare(1, 2);
        x.compare(2, 2);
        Check.looks("compared", x, 3, 9, 3, 5, 3, 3, 3, 16);
        Check.outputIs("the output", x, 0x42, 0xab, 0xcd);
        Check.due("a byte", x.byteAt(1, 0, 63), 0x28 + 56);
    }

    /** look: "NONE for any other which." */
    private static void lookQuestions() {
        Counted x = madeThree();
        Check.looks("three", x, 3, 9, 3, 5, 3, 3, 3, 16);
        Check.due("look(-1)", x.look(-1), -1);
        Check.due("look(8)", x.look(8), -1);
        for (int which : States.FAR_OFF) {
            Still.none("look(" + which + ")", EdgeAskTest::three, y -> y.look(which));
        }
        Still.none("look(8)", EdgeAskTest::three, y -> y.look(8));
        Still.none("look(-1)", EdgeAskTest::three, y -> y.look(-1));
    }

    /** 0 and the most of each: 16 items, 1000 nodes, 4096 bytes of output and of input, AT 4096. */
    private static void lookAtEachEnd() {
        Counted x = new Counted();
        Check.looks("none of each", x, 0, 0, 0, 0, 0, 0, -1, -1);
        States.inputOf(x, 4096);
        States.outputOf(x, 4096);
        while (x.read() == 0) {
            x.drop();
        }
        Check.looks("full rows", x, 0, 0, 4096, 4096, 4096, 0, -1, -1);
        States.fill(x, 989);
        for (int n = 0; n < 11; n++) {
            x.integer(n);
        }
        Check.looks("full of all", x, 16, 1000, 4096, 4096, 4096, 0, -1, 1);
    }

    /** "7: how many bytes the TOP has, written (NONE without one)"; it may be more than have room. */
    private static void lookWritten() {
        Counted x = new Counted();
        Check.due("without a top", x.look(7), -1);
        States.text(x, 64);
        Check.due("64 bytes", x.look(7), 66);
        for (int n = 1; n < 14; n++) {
            x.copy(0);
        }
        x.list(14);
        for (int n = 1; n < 13; n++) {
            x.copy(0);
        }
        x.list(13);
        Check.due("196 nodes", x.node(0, 0, 3), 196);
        Check.due("182 times 64 bytes", x.look(7), 182 * 66 + 13 + 1);
        Check.due("they have no room", x.write(), -1);
        x.integer(5);
        Check.due("the top alone counts", x.look(7), 1);
        x.drop();
        x.drop();
        Check.due("without a top again", x.look(7), -1);
    }
}
