/**
 * Promises 1 to 10 at their edges: of each sentence that names one, what is just within and what is
 * just beyond it; and that a call which is refused changes nothing.
 */
public final class EdgeBuildTest {
    public static void main(String[] args) {
        newObjectIsEmpty();
        newObjectRefuses();
        integerValues();
        integerRoom();
        bytesCounts();
        bytesTakeTheLowest();
        bytesRoom();
        moreNeedsBytes();
        moreCounts();
        moreUpTo64();
        moreNeedsNoRoom();
        listCounts();
        listOrder();
        mapCounts();
        mapCountsThatWrapAround();
        mapOrder();
        constructorCounts();
        constructorNumbers();
        nodesOfOne();
        depthOfOne();
        whatIsGoneDoesNotCount();
        roomForItems();
        roomForNodes();
        copyIndices();
        copyRoom();
        drop();
        openNeedsInner();
        openEmpty();
        openRoom();
        openOrder();
        lastCall();
        Check.end();
    }

    /** "An empty STACK; no bytes." "THE INPUT [..] none at first; [..] AT on, 0 at first." */
    private static void newObjectIsEmpty() {
        Counted x = new Counted();
        Check.looks("new", x, 0, 0, 0, 0, 0, 0, -1, -1);
        Check.due("new: output(0)", x.output(0), -1);
        Check.due("new: node", Check.thrownByNode(x, 0, 0, 0), Check.INDEX);
    }

    private static void newObjectRefuses() {
        Still.no("new: more", States::nothing, x -> x.more(1, 1));
        Still.no("new: list(1)", States::nothing, x -> x.list(1));
        Still.no("new: map(1)", States::nothing, x -> x.map(1));
        Still.no("new: constructor(0, 1)", States::nothing, x -> x.constructor(0, 1));
        Still.no("new: copy(0)", States::nothing, x -> x.copy(0));
        Still.no("new: drop()", States::nothing, x -> x.drop());
        Still.none("new: open()", States::nothing, x -> x.open());
        Still.none("new: write()", States::nothing, x -> x.write());
        Still.none("new: read()", States::nothing, x -> x.read());
        Still.no("new: cut(1)", States::nothing, x -> x.cut(1));
        Still.none("new: byteAt", States::nothing, x -> x.byteAt(0, 0, 0));
        Still.thrown("new: value", States::nothing, Check.INDEX, x -> x.value(0, 0));
        Still.thrown("new: compare", States::nothing, Check.INDEX, x -> x.compare(0, 0));
    }

    /** "an INTEGER (a long)": the least, the greatest, and those about 0. */
    private static void integerValues() {
        Counted x = new Counted();
        long[] all = {Long.MIN_VALUE, Long.MIN_VALUE + 1, -1, 0, 1, Long.MAX_VALUE - 1, Long.MAX_VALUE};
        for (long v : all) {
            Check.yes("integer(" + v + ")", x.integer(v));
            Check.due("its value", x.value(0, 0), v);
        }
        for (int i = 0; i < all.length; i++) {
            Check.due("value of item " + i, x.value(i, 0), all[all.length - 1 - i]);
        }
    }

    /** "false if there is no room." */
    private static void integerRoom() {
        Counted x = new Counted();
        States.integers(15).on(x);
        Check.yes("a 16th integer", x.integer(-9));
        Check.due("16 items", x.look(0), 16);
        Check.due("it is the top", x.value(0, 0), -9);
        Still.no("a 17th integer", States.integers(16), y -> y.integer(-9));
        x = new Counted();
        States.nodes(999).on(x);
        Check.yes("an integer, the 1000th node", x.integer(-9));
        Check.due("1000 nodes", x.look(1), 1000);
        Still.no("an integer, the 1001st node", States.nodes(1000), y -> y.integer(-9));
    }

    /** "n 0 .. 8: true; false if n is none". */
    private static void bytesCounts() {
        for (int n = 0; n <= 8; n++) {
            Counted x = new Counted();
            Check.yes("bytes of " + n, x.bytes(-1, n));
            Check.due("how many", x.node(0, 0, 1), n);
            Check.due("the last one", x.byteAt(0, 0, n - 1), n == 0 ? -1 : 255);
            Check.due("behind the last one", x.byteAt(0, 0, n), -1);
        }
        Still.no("bytes of -1", States::two, x -> x.bytes(5, -1));
        Still.no("bytes of 9", States::two, x -> x.bytes(5, 9));
        for (int n : States.FAR_OFF) {
            Still.no("bytes of " + n, States::two, x -> x.bytes(5, n));
        }
    }

    /** "the n lowest of part, the highest first": what is higher in part does not come. */
    private static void bytesTakeTheLowest() {
        for (int n = 0; n <= 8; n++) {
            Counted x = new Counted();
            x.bytes(0xf1f2f3f4f5f6f7f8L, n);
            x.more(0xe1e2e3e4e5e6e7e8L, n);
            for (int j = 0; j < n; j++) {
                Check.due("byte " + j + " of " + n, x.byteAt(0, 0, j), 0xf9 - n + j);
            }
            for (int j = n; n > 0 && j < 2 * n; j++) {
                Check.due("byte " + j + " of twice " + n, x.byteAt(0, 0, j), 0xe9 - n + j - n);
            }
        }
    }

    /** "or there is no room." */
    private static void bytesRoom() {
        Counted x = new Counted();
        States.integers(15).on(x);
        Check.yes("bytes, the 16th item", x.bytes(0x77, 1));
        Check.due("they are the top", x.byteAt(0, 0, 0), 0x77);
        Still.no("bytes, the 17th item", States.integers(16), y -> y.bytes(0x77, 1));
        Still.no("no bytes, the 17th item", States.integers(16), y -> y.bytes(0, 0));
        x = new Counted();
        States.nodes(999).on(x);
        Check.yes("bytes, the 1000th node", x.bytes(0x77, 1));
        Check.due("1000 nodes", x.look(1), 1000);
        Still.no("bytes, the 1001st node", States.nodes(1000), y -> y.bytes(0x77, 1));
    }

    /** "The TOP, which is BYTES, gets n more [..] false if it is none". */
    private static void moreNeedsBytes() {
        Still.no("more without a top", States::rows, x -> x.more(1, 1));
        Still.no("more of an integer on bytes", x -> {
            x.bytes(1, 1);
            x.integer(0);
        }, x -> x.more(1, 1));
        Still.no("more of a list", x -> x.list(0), x -> x.more(1, 1));
        Still.no("more of a list of bytes", x -> {
            x.bytes(1, 1);
            x.list(1);
        }, x -> x.more(1, 1));
        Still.no("more of a map", x -> x.map(0), x -> x.more(1, 1));
        Still.no("more of a constructor", x -> x.constructor(2, 0), x -> x.more(1, 1));
        Counted x = new Counted();
        x.bytes(1, 1);
        Check.yes("more of bytes", x.more(1, 1));
    }

    /** "n more, 1 .. 8 [..] false if [..] n is none". */
    private static void moreCounts() {
        for (int n = 1; n <= 8; n++) {
            Counted x = new Counted();
            x.bytes(0x5152, 2);
            Check.yes("more of " + n, x.more(-1, n));
            Check.due("how many", x.node(0, 0, 1), 2 + n);
            Check.due("the last one before", x.byteAt(0, 0, 1), 0x52);
            Check.due("the first one more", x.byteAt(0, 0, 2), 255);
            Check.due("the last one more", x.byteAt(0, 0, 1 + n), 255);
            Check.due("behind it", x.byteAt(0, 0, 2 + n), -1);
        }
        Still.Steps before = x -> {
            States.two(x);
            x.bytes(0x5152, 2);
        };
        Still.no("more of -1", before, x -> x.more(-1, -1));
        Still.no("more of 0", before, x -> x.more(-1, 0));
        Still.no("more of 9", before, x -> x.more(-1, 9));
        for (int n : States.FAR_OFF) {
            Still.no("more of " + n, before, x -> x.more(-1, n));
        }
    }

    /** "or it would have more than 64." "BYTES, 0 to 64". */
    private static void moreUpTo64() {
        for (int n = 1; n <= 8; n++) {
            Counted x = new Counted();
            States.text(x, 64 - n);
            Check.yes(n + " more to 64", x.more(0x3132333435363738L, n));
            Check.due("64 bytes", x.node(0, 0, 1), 64);
            Check.due("the last one", x.byteAt(0, 0, 63), 0x38);
            int more = n;
            Still.no(n + " more to 65", y -> States.text(y, 65 - more), y -> y.more(-1, more));
            Still.no(n + " more than 64", y -> States.text(y, 64), y -> y.more(-1, more));
        }
    }

    /** More bytes of the top are no more nodes or items: a full stack has room for them. */
    private static void moreNeedsNoRoom() {
        Counted x = new Counted();
        States.integers(15).on(x);
        x.bytes(1, 1);
        Check.yes("more of the 16th item", x.more(2, 1));
        x = new Counted();
        States.nodes(999).on(x);
        x.bytes(1, 1);
        Check.yes("more of the 1000th node", x.more(2, 1));
        Check.due("nodes", x.look(1), 1000);
    }

    /** "false if n is below 0, there are fewer". */
    private static void listCounts() {
        for (int n = 0; n <= 4; n++) {
            Counted x = new Counted();
            States.integers(4).on(x);
            Check.yes("list of " + n + " of 4", x.list(n));
            Check.nodes("list of " + n, x, 0, 0, 4, n, -1, n + 1, n == 0 ? 1 : 2, -1);
            Check.due("items", x.look(0), 5 - n);
            Check.due("nodes", x.look(1), 5);
        }
        Still.no("list of 5 of 4", States.integers(4), x -> x.list(5));
        Still.no("list of -1 of 4", States.integers(4), x -> x.list(-1));
        Still.no("list of -4 of 4", States.integers(4), x -> x.list(-4));
        Still.no("list of 17 of 16", States.integers(16), x -> x.list(17));
        Still.no("list of 1 of none", States::rows, x -> x.list(1));
        for (int n : States.FAR_OFF) {
            Still.no("list of " + n + " of 4", States.integers(4), x -> x.list(n));
        }
        Counted x = new Counted();
        States.integers(16).on(x);
        Check.yes("list of 16 of 16", x.list(16));
        Check.due("one item", x.look(0), 1);
    }

    /** "become a LIST of them, the deepest first". */
    private static void listOrder() {
        Counted x = new Counted();
        States.integers(5).on(x);
        x.list(3);
        for (int k = 1; k <= 3; k++) {
            Check.due("node " + k, x.value(0, k), 101 + k);
        }
        Check.due("below the list", x.value(1, 0), 101);
        Check.due("the deepest", x.value(2, 0), 100);
    }

    /** "The 2 * n last ones become a MAP of n pairs [..] likewise": n below 0, or there are fewer. */
    private static void mapCounts() {
        for (int n = 0; n <= 2; n++) {
            Counted x = new Counted();
            States.integers(5).on(x);
            Check.yes("map of " + n + " of 5", x.map(n));
            Check.nodes("map of " + n, x, 0, 0, 5, n, -1, 2 * n + 1, n == 0 ? 1 : 2, -1);
            Check.due("items", x.look(0), 6 - 2 * n);
            Check.due("nodes", x.look(1), 6);
        }
        Still.no("map of 3 of 5", States.integers(5), x -> x.map(3));
        Still.no("map of 5 of 5", States.integers(5), x -> x.map(5));
        Still.no("map of 1 of 1", States.integers(1), x -> x.map(1));
        Still.no("map of 8 of 15", States.integers(15), x -> x.map(8));
        Still.no("map of 9 of 16", States.integers(16), x -> x.map(9));
        Still.no("map of -1", States.integers(5), x -> x.map(-1));
        Counted x = new Counted();
        States.integers(16).on(x);
        Check.yes("map of 8 of 16", x.map(8));
        Check.nodes("map of 8", x, 0, 0, 5, 8, -1, 17, 2, -1);
        Check.due("one item", x.look(0), 1);
    }

    /** 2 * n as an int would be 0 or a small number for some of these. */
    private static void mapCountsThatWrapAround() {
        int[] wrap = {Integer.MIN_VALUE + 3, 1073741826, 1073741828, -2147483646, 2147483646, -1073741822};
        for (int n : wrap) {
            Still.no("map of " + n, States.integers(8), x -> x.map(n));
        }
        for (int n : States.FAR_OFF) {
            Still.no("map of " + n, States.integers(8), x -> x.map(n));
        }
    }

    /** "the deepest the first key". */
    private static void mapOrder() {
        Counted x = new Counted();
        States.integers(5).on(x);
        x.map(2);
        Check.writtenIs("key, value, key, value", x, 0xa2, 0x18, 101, 0x18, 102, 0x18, 103, 0x18, 104);
        Check.due("below the map", x.value(1, 0), 100);
    }

    /** "The n last ones become the fields of a CONSTRUCTOR: likewise". */
    private static void constructorCounts() {
        for (int n = 0; n <= 4; n++) {
            Counted x = new Counted();
            States.integers(4).on(x);
            Check.yes("constructor of " + n + " of 4", x.constructor(11, n));
            Check.nodes("constructor of " + n, x, 0, 0, 6, n, 11, n + 1, n == 0 ? 1 : 2, -1);
            for (int k = 1; k <= n; k++) {
                Check.due("field " + k, x.value(0, k), 103 - n + k);
            }
            Check.due("items", x.look(0), 5 - n);
        }
        Still.no("constructor of 5 of 4", States.integers(4), x -> x.constructor(11, 5));
        Still.no("constructor of -1 of 4", States.integers(4), x -> x.constructor(11, -1));
        Still.no("constructor of 1 of none", States::rows, x -> x.constructor(11, 1));
        for (int n : States.FAR_OFF) {
            Still.no("constructor of " + n + " of 4", States.integers(4), x -> x.constructor(11, n));
        }
    }

    /** "a number 0 .. 127", "(also if the number is none)". */
    private static void constructorNumbers() {
        for (int number : new int[] {0, 1, 6, 7, 126, 127}) {
            Counted x = new Counted();
            States.two(x);
            Check.yes("constructor " + number, x.constructor(number, 1));
            Check.nodes("constructor " + number, x, 0, 0, 6, 1, number, 4, 3, -1);
        }
        Still.no("constructor -1", States::two, x -> x.constructor(-1, 1));
        Still.no("constructor 128", States::two, x -> x.constructor(128, 1));
        Still.no("constructor -1 without fields", States::two, x -> x.constructor(-1, 0));
        Still.no("constructor 128 without fields", States::two, x -> x.constructor(128, 0));
        for (int number : States.FAR_OFF) {
            Still.no("constructor " + number, States::two, x -> x.constructor(number, 2));
        }
    }

    /** "its NODES: at most 200", "or it would be none". */
    private static void nodesOfOne() {
        Still.Steps to200 = x -> {
            States.tree(x, 100, 1);
            States.tree(x, 99, 2);
        };
        Still.Steps to201 = x -> {
            States.tree(x, 100, 1);
            x.copy(0);
        };
        Counted x = new Counted();
        to200.on(x);
        Check.yes("a list of 200 nodes", x.list(2));
        Check.due("200 nodes", x.node(0, 0, 3), 200);
        x = new Counted();
        to200.on(x);
        Check.yes("a map of 200 nodes", x.map(1));
        Check.due("200 nodes", x.node(0, 0, 3), 200);
        x = new Counted();
        to200.on(x);
        Check.yes("a constructor of 200 nodes", x.constructor(1, 2));
        Check.due("200 nodes", x.node(0, 0, 3), 200);
        Still.no("a list of 201 nodes", to201, y -> y.list(2));
        Still.no("a map of 201 nodes", to201, y -> y.map(1));
        Still.no("a constructor of 201 nodes", to201, y -> y.constructor(1, 2));
        Still.no("a list round 200 nodes", y -> States.tree(y, 200, 1), y -> y.list(1));
        Still.no("a constructor round 200 nodes", y -> States.tree(y, 200, 1), y -> y.constructor(0, 1));
        Still.no("a list of 601 nodes", States.nodes(600), y -> y.list(3));
    }

    /** "Its DEPTH [..] at most 12", "or it would be none". */
    private static void depthOfOne() {
        Still.Steps eleven = x -> {
            States.chain(x, 11);
            x.integer(5);
        };
        Still.Steps twelve = x -> {
            States.chain(x, 12);
            x.integer(5);
        };
        Counted x = new Counted();
        eleven.on(x);
        Check.yes("a list of depth 12", x.list(2));
        Check.due("12", x.node(0, 0, 4), 12);
        x = new Counted();
        eleven.on(x);
        Check.yes("a map of depth 12", x.map(1));
        Check.due("12", x.node(0, 0, 4), 12);
        x = new Counted();
        eleven.on(x);
        Check.yes("a constructor of depth 12", x.constructor(1, 2));
        Check.due("12", x.node(0, 0, 4), 12);
        Still.no("a list of depth 13", twelve, y -> y.list(2));
        Still.no("a map of depth 13", twelve, y -> y.map(1));
        Still.no("a constructor of depth 13", twelve, y -> y.constructor(1, 2));
        Still.no("a list round depth 12", y -> States.chain(y, 12), y -> y.list(1));
        x = new Counted();
        twelve.on(x);
        Check.yes("a list of the top alone", x.list(1));
        Check.due("its depth", x.node(0, 0, 4), 2);
        Check.yes("a list beside depth 12", x.list(0));
        x = new Counted();
        States.chain(x, 12);
        Check.due("open the outermost", x.open(), 1);
        Check.due("11 deep", x.node(0, 0, 4), 11);
        Check.yes("and put it back", x.constructor(0, 1));
    }

    /** Depth, nodes and bytes of what was dropped, or read with a fault, are of no account. */
    private static void whatIsGoneDoesNotCount() {
        Counted x = new Counted();
        x.integer(1);
        States.chain(x, 12);
        x.drop();
        Check.yes("a list where a deep one was", x.list(1));
        Check.nodes("it", x, 0, 0, 4, 1, -1, 2, 2, -1);
        States.tree(x, 200, 1);
        x.drop();
        Check.yes("a constructor where 200 nodes were", x.constructor(0, 1));
        Check.nodes("it", x, 0, 0, 6, 1, 0, 3, 3, -1);
        States.text(x, 64);
        x.drop();
        x.bytes(0, 0);
        Check.yes("bytes where 64 were", x.more(0, 8));
        Check.due("how many", x.node(0, 0, 1), 8);
        Check.due("a byte of them", x.byteAt(0, 0, 0), 0);
        States.give(x, 0x82, 0x43, 1, 2, 3);
        Check.due("a fault behind bytes", x.read(), 1);
        x.bytes(0, 1);
        x.bytes(0, 2);
        Check.due("a byte where others were read", x.byteAt(0, 0, 0), 0);
        Check.due("and another one", x.byteAt(0, 0, 1), 0);
    }

    /** "THE STACK has up to 16 DATA": only what is made of none, or comes anew, needs room. */
    private static void roomForItems() {
        Counted x = new Counted();
        States.integers(15).on(x);
        Check.yes("an empty list, the 16th", x.list(0));
        x.drop();
        Check.yes("an empty map, the 16th", x.map(0));
        x.drop();
        Check.yes("a constructor, the 16th", x.constructor(0, 0));
        Check.due("16 items", x.look(0), 16);
        Still.no("an empty list, the 17th", States.integers(16), y -> y.list(0));
        Still.no("an empty map, the 17th", States.integers(16), y -> y.map(0));
        Still.no("a constructor, the 17th", States.integers(16), y -> y.constructor(0, 0));
        Check.yes("a list of the 16th", x.list(1));
        Check.yes("a constructor of it", x.constructor(0, 1));
        Check.due("16 items", x.look(0), 16);
        Check.yes("a map of two of 16", x.map(1));
        Check.due("15 items", x.look(0), 15);
    }

    /** "with at most 1000 NODES together". */
    private static void roomForNodes() {
        Still.Steps to999 = x -> {
            States.rows(x);
            States.fill(x, 997);
            x.integer(1);
            x.integer(2);
        };
        Still.Steps to1000 = x -> {
            States.rows(x);
            States.fill(x, 998);
            x.integer(1);
            x.integer(2);
        };
        accepted("list(0)", to999, x -> x.list(0));
        accepted("list(1)", to999, x -> x.list(1));
        accepted("list(2)", to999, x -> x.list(2));
        accepted("map(0)", to999, x -> x.map(0));
        accepted("map(1)", to999, x -> x.map(1));
        accepted("constructor(3, 0)", to999, x -> x.constructor(3, 0));
        accepted("constructor(3, 2)", to999, x -> x.constructor(3, 2));
        Still.no("list(0) to 1001 nodes", to1000, x -> x.list(0));
        Still.no("list(1) to 1001 nodes", to1000, x -> x.list(1));
        Still.no("list(2) to 1001 nodes", to1000, x -> x.list(2));
        Still.no("map(0) to 1001 nodes", to1000, x -> x.map(0));
        Still.no("map(1) to 1001 nodes", to1000, x -> x.map(1));
        Still.no("constructor(3, 0) to 1001 nodes", to1000, x -> x.constructor(3, 0));
        Still.no("constructor(3, 2) to 1001 nodes", to1000, x -> x.constructor(3, 2));
    }

    private static void accepted(String what, Still.Steps before, Still.YesNo call) {
        Counted x = new Counted();
        before.on(x);
        Check.yes(what + " to 1000 nodes", call.on(x));
        Check.due(what + ": nodes", x.look(1), 1000);
    }

    /** copy: "false if there is none such". */
    private static void copyIndices() {
        for (int i = 0; i < 4; i++) {
            Counted x = new Counted();
            States.integers(4).on(x);
            Check.yes("copy(" + i + ") of 4", x.copy(i));
            Check.due("it is the top", x.value(0, 0), 103 - i);
            Check.due("it stays where it was", x.value(i + 1, 0), 103 - i);
            Check.due("items", x.look(0), 5);
        }
        Still.no("copy(4) of 4", States.integers(4), x -> x.copy(4));
        Still.no("copy(-1) of 4", States.integers(4), x -> x.copy(-1));
        Still.no("copy(-4) of 4", States.integers(4), x -> x.copy(-4));
        Still.no("copy(15) of 15", States.integers(15), x -> x.copy(15));
        for (int i : States.FAR_OFF) {
            Still.no("copy(" + i + ") of 4", States.integers(4), x -> x.copy(i));
        }
    }

    /** copy: "or no room." */
    private static void copyRoom() {
        Counted x = new Counted();
        States.integers(15).on(x);
        Check.yes("copy(14), the 16th item", x.copy(14));
        Check.due("the deepest", x.value(0, 0), 100);
        Still.no("copy(0), the 17th item", States.integers(16), y -> y.copy(0));
        Still.no("copy(15), the 17th item", States.integers(16), y -> y.copy(15));
        x = new Counted();
        States.nodes(850).on(x);
        States.tree(x, 75, 1);
        Check.yes("copy of 75 nodes to 1000", x.copy(0));
        Check.due("1000 nodes", x.look(1), 1000);
        Check.due("the same", x.compare(0, 1), 0);
        Still.no("copy of 76 nodes to 1001", y -> {
            States.nodes(849).on(y);
            States.tree(y, 76, 1);
        }, y -> y.copy(0));
        Still.no("copy of 1 node to 1001", y -> {
            States.nodes(999).on(y);
            y.integer(8);
        }, y -> y.copy(0));
    }

    /** "The TOP goes: true; false if there is none." */
    private static void drop() {
        Counted x = new Counted();
        States.integers(2).on(x);
        Check.yes("drop of 2", x.drop());
        Check.due("the one below is the top", x.value(0, 0), 100);
        Check.yes("drop of 1", x.drop());
        Check.looks("none", x, 0, 0, 3, 5, 3, 3, 3, -1);
        Still.no("drop of none", States::rows, y -> y.drop());
        x = new Counted();
        States.nodes(1000).on(x);
        Check.yes("drop of 200 nodes of 1000", x.drop());
        Check.due("nodes", x.look(1), 800);
        Check.yes("there is room again", x.copy(0));
        Check.due("nodes", x.look(1), 1000);
    }

    /** open: "The TOP, a LIST, MAP or CONSTRUCTOR [..] NONE if there is none such". */
    private static void openNeedsInner() {
        Still.none("open without a top", States::rows, x -> x.open());
        Still.none("open an integer on a list", x -> {
            States.two(x);
            x.integer(0);
        }, x -> x.open());
        Still.none("open bytes", x -> {
            States.two(x);
            x.bytes(0x0102, 2);
        }, x -> x.open());
        Still.none("open no bytes", x -> {
            States.two(x);
            x.bytes(0, 0);
        }, x -> x.open());
    }

    /** What is empty opens to none: 0, and it is gone; also on a full stack. */
    private static void openEmpty() {
        for (int kind = 0; kind < 3; kind++) {
            Counted x = new Counted();
            States.integers(15).on(x);
            Check.yes("an empty one", kind == 0 ? x.list(0) : kind == 1 ? x.map(0) : x.constructor(5, 0));
            Check.due("open it", x.open(), 0);
            Check.looks("it is gone", x, 15, 15, 3, 5, 3, 3, 3, 2);
            Check.due("the one below is the top", x.value(0, 0), 114);
        }
    }

    /** open: "or no room." The opened one itself makes room for one. */
    private static void openRoom() {
        for (int n = 1; n <= 15; n++) {
            int inner = n;
            int below = 16 - n;
            Counted x = new Counted();
            States.integers(16).on(x);
            x.list(n);
            Check.due("open a list of " + n + " on " + below, x.open(), n);
            Check.looks("16 items", x, 16, 16, 3, 5, 3, 3, 3, 2);
            if (n > 1) {
                String what = "open a list of " + n + " on " + (below + 1);
                Still.none(what, y -> listOn(y, below + 1, inner), y -> y.open());
            }
        }
        Counted x = new Counted();
        States.integers(16).on(x);
        x.list(16);
        Check.due("open a list of 16", x.open(), 16);
        Still.none("open a list of 16 on one", y -> listOn(y, 1, 16), y -> y.open());
        openRoomOfPairs();
    }

    /** A list of n integers on so many items, of which the deepest is such a list, too. */
    private static void listOn(Counted x, int below, int n) {
        States.integers(n).on(x);
        x.list(n);
        for (int v = 1; v < below; v++) {
            x.integer(v);
        }
        Check.yes("a list on " + below, x.copy(below - 1));
    }

    private static void openRoomOfPairs() {
        Counted x = new Counted();
        States.integers(16).on(x);
        x.map(8);
        Check.due("open a map of 8 pairs", x.open(), 16);
        x.map(7);
        Check.due("open a map of 7 pairs on two", x.open(), 14);
        x.constructor(100, 14);
        Check.due("open a constructor of 14 on two", x.open(), 14);
        Still.none("open a map of 8 pairs on one", y -> {
            States.integers(16).on(y);
            y.map(8);
            y.copy(0);
        }, y -> y.open());
        Still.none("open a constructor of 16 on one", y -> {
            States.integers(16).on(y);
            y.constructor(7, 16);
            y.copy(0);
        }, y -> y.open());
    }

    /** "what is within it at once comes, the first one first: how many". */
    private static void openOrder() {
        Counted x = new Counted();
        States.two(x);
        x.integer(6);
        x.map(1);
        Check.due("open a map of a list and an integer", x.open(), 2);
        Check.due("the value is the top", x.value(0, 0), 6);
        Check.nodes("the key below it, whole", x, 1, 0, 4, 2, -1, 3, 2, -1);
        Check.due("its bytes", x.byteAt(1, 1, 2), 0xf3);
        Check.due("its integer", x.value(1, 2), 4);
        Check.due("and what was below", x.value(2, 0), -77);
        Check.looks("looks", x, 3, 5, 3, 5, 3, 3, 3, 1);
    }

    /** "at most 512 calls": the last of them is answered like the first. */
    private static void lastCall() {
        Counted x = new Counted();
        for (int n = 1; n < 256; n++) {
            x.integer(n);
            x.drop();
        }
        x.integer(256);
        Check.due("call 512", x.value(0, 0), 256);
        Check.due("calls left", x.left(), 0);
    }
}
