/** Promises 1 to 10: a new object, and what puts data together and takes them apart. */
public final class BuildTest {
    private static final int[] LOW_AND_HIGH = {
        Integer.MIN_VALUE, Integer.MIN_VALUE + 1, -1073741824, -1073741823, -2, -1,
        17, 1073741824, 1073741825, Integer.MAX_VALUE - 1, Integer.MAX_VALUE,
    };

    public static void main(String[] args) {
        newObject();
        integer();
        bytes();
        more();
        list();
        listLimits();
        map();
        constructor();
        copy();
        drop();
        open();
        openKeepsWhatIsBelow();
        roomForNodes();
        Check.end();
    }

    private static void newObject() {
        Counted x = new Counted();
        Check.looks("new", x, 0, 0, 0, 0, 0, 0, -1, -1);
        Check.due("new: output(0)", x.output(0), -1);
        Check.due("new: read()", x.read(), -1);
        Check.due("new: write()", x.write(), -1);
        x.clear();
        x.turn();
        Check.looks("new, cleared and turned", x, 0, 0, 0, 0, 0, 0, -1, -1);
        Counted y = new Counted();
        x.integer(1);
        Check.due("another object stays as it is", y.look(0), 0);
    }

    private static void integer() {
        Counted x = new Counted();
        long[] all = {0, 1, -1, 42, Long.MAX_VALUE, Long.MIN_VALUE};
        for (long v : all) {
            Check.yes("integer(" + v + ")", x.integer(v));
            Check.due("its value", x.value(0, 0), v);
            Check.nodes("integer " + v, x, 0, 0, 0, -1, -1, 1, 1, -1);
        }
        for (int n = all.length; n < 16; n++) {
            Check.yes("integer to the 16th", x.integer(n));
        }
        Check.no("a 17th", x.integer(99));
        Check.looks("16 integers", x, 16, 16, 0, 0, 0, 0, -1, 1);
        Check.due("the top stays", x.value(0, 0), 15);
        Check.due("the deepest stays", x.value(15, 0), 0);
    }

    private static void bytes() {
        Counted x = new Counted();
        for (int n : LOW_AND_HIGH) {
            Check.no("bytes of " + n, x.bytes(1, n));
        }
        Check.no("bytes of 9", x.bytes(1, 9));
        Check.due("none came", x.look(0), 0);
        long part = 0x8081828384858687L;
        for (int n = 0; n <= 8; n++) {
            Check.yes("bytes of " + n, x.bytes(part, n));
            Check.nodes("bytes of " + n, x, 0, 0, 2, n, -1, 1, 1, -1);
            for (int j = 0; j < n; j++) {
                Check.due("byte " + j + " of " + n, x.byteAt(0, 0, j), 0x88 - n + j);
            }
            Check.due("byte behind " + n, x.byteAt(0, 0, n), -1);
        }
        for (int n = 9; n < 16; n++) {
            Check.yes("bytes to the 16th", x.bytes(0, 0));
        }
        Check.no("a 17th", x.bytes(0, 0));
        Check.due("items", x.look(0), 16);
    }

    private static void more() {
        Counted x = new Counted();
        Check.no("more without a top", x.more(1, 1));
        x.bytes(0x11, 1);
        x.integer(7);
        Check.no("more of an integer", x.more(1, 1));
        Check.due("its value stays", x.value(0, 0), 7);
        x.list(1);
        Check.no("more of a list", x.more(1, 1));
        x.drop();
        for (int n : LOW_AND_HIGH) {
            Check.no("more of " + n, x.more(1, n));
        }
        Check.no("more of 0", x.more(1, 0));
        Check.no("more of 9", x.more(1, 9));
        Check.yes("more of 3", x.more(0xfe22334455L, 3));
        Check.writtenIs("4 bytes", x, 0x44, 0x11, 0x33, 0x44, 0x55);
        moreUpTo64(x);
    }

    private static void moreUpTo64(Counted x) {
        for (int n = 0; n < 7; n++) {
            Check.yes("more of 8", x.more(-2 - n, 8));
        }
        Check.no("65 bytes", x.more(1, 5));
        Check.due("60 bytes stay", x.node(0, 0, 1), 60);
        Check.yes("64 bytes", x.more(0x01020304, 4));
        Check.no("64 bytes and one", x.more(1, 1));
        Check.due("64 bytes", x.node(0, 0, 1), 64);
        Check.due("bytes written", x.look(7), 66);
        Check.due("byte 3", x.byteAt(0, 0, 3), 0x55);
        Check.due("byte 11", x.byteAt(0, 0, 11), 0xfe);
        Check.due("byte 59", x.byteAt(0, 0, 59), 0xf8);
        Check.due("byte 63", x.byteAt(0, 0, 63), 4);
        Check.due("byte 64", x.byteAt(0, 0, 64), -1);
        x.drop();
        x.bytes(0, 0);
        x.more(0, 8);
        Check.writtenIs("nothing of dropped bytes is left", x, 0x48, 0, 0, 0, 0, 0, 0, 0, 0);
        x.drop();
        x.bytes(0xa0, 1);
        x.copy(0);
        x.more(0xb0, 1);
        Check.due("a copy gets more", x.node(0, 0, 1), 2);
        Check.due("the other one does not", x.node(1, 0, 1), 1);
    }

    private static void list() {
        Counted x = new Counted();
        for (int n : LOW_AND_HIGH) {
            Check.no("list of " + n, x.list(n));
        }
        Check.no("list of 1 of none", x.list(1));
        Check.due("nothing came", x.look(0), 0);
        Check.yes("list of 0", x.list(0));
        Check.nodes("list of 0", x, 0, 0, 4, 0, -1, 1, 1, -1);
        x.integer(1);
        x.bytes(0x0203, 2);
        Check.no("list of 4 of 3", x.list(4));
        Check.yes("list of 2", x.list(2));
        Check.looks("two lists", x, 2, 4, 0, 0, 0, 0, -1, 5);
        Check.nodes("list of 2", x, 0, 0, 4, 2, -1, 3, 2, -1);
        Check.nodes("its first", x, 0, 1, 0, -1, -1, 1, 1, 0);
        Check.nodes("its second", x, 0, 2, 2, 2, -1, 1, 1, 0);
        Check.due("the deepest is first", x.value(0, 1), 1);
        Check.nodes("below it", x, 1, 0, 4, 0, -1, 1, 1, -1);
        Check.writtenIs("list of 2", x, 0x82, 0x01, 0x42, 0x02, 0x03);
        Check.yes("list of lists", x.list(2));
        Check.writtenIs("list of lists", x, 0x82, 0x80, 0x82, 0x01, 0x42, 0x02, 0x03);
        Check.nodes("list of lists", x, 0, 0, 4, 2, -1, 5, 3, -1);
        Check.nodes("the inner one", x, 0, 2, 4, 2, -1, 3, 2, 0);
        Check.nodes("within the inner one", x, 0, 4, 2, 2, -1, 1, 1, 2);
    }

    private static void listLimits() {
        Counted x = new Counted();
        for (int n = 0; n < 16; n++) {
            x.integer(n);
        }
        Check.no("no room for a 17th, an empty list", x.list(0));
        Check.no("nor an empty map", x.map(0));
        Check.no("nor a constructor", x.constructor(0, 0));
        x.drop();
        Check.yes("room for a 16th, an empty list", x.list(0));
        x.drop();
        Check.yes("an empty map", x.map(0));
        x.drop();
        Check.yes("a constructor", x.constructor(0, 0));
        Check.yes("list of all 16", x.list(16));
        Check.due("one item", x.look(0), 1);
        for (int n = 2; n <= 11; n++) {
            Check.yes("depth " + (n + 1), x.list(1));
        }
        Check.due("depth", x.node(0, 0, 4), 12);
        Check.no("a list of depth 13", x.list(1));
        Check.no("a map of depth 13", x.integer(1) && x.map(1));
        Check.no("a constructor of depth 13", x.constructor(1, 2));
        Check.looks("nothing has changed", x, 2, 28, 0, 0, 0, 0, -1, 1);
        nodeLimit();
    }

    private static void nodeLimit() {
        Counted x = new Counted();
        Check.listOf(x, 100);
        x.copy(0);
        Check.no("a list of 201 nodes", x.list(2));
        Check.no("a map of 201 nodes", x.map(1));
        Check.no("a constructor of 201 nodes", x.constructor(3, 2));
        Check.looks("nothing has changed", x, 2, 200, 0, 0, 0, 0, -1, 101);
        x.drop();
        Check.listOf(x, 99);
        Check.yes("a list of 200 nodes", x.list(2));
        Check.due("200 nodes", x.node(0, 0, 3), 200);
        Check.no("a list round 200 nodes", x.list(1));
        Check.no("a constructor round them", x.constructor(0, 1));
        Check.yes("an empty one beside them", x.map(0));
        Check.no("a map of both", x.map(1));
        Check.looks("nothing has changed", x, 2, 201, 0, 0, 0, 0, -1, 1);
        x.drop();
        x.drop();
        Check.listOf(x, 99);
        x.copy(0);
        Check.yes("a map of 199 nodes", x.map(1));
        Check.yes("a constructor of 200 nodes", x.constructor(5, 1));
        Check.nodes("it", x, 0, 0, 6, 1, 5, 200, 4, -1);
        Check.nodes("its last node", x, 0, 199, 0, -1, -1, 1, 1, 101);
    }

    private static void map() {
        Counted x = new Counted();
        for (int n = 0; n < 4; n++) {
            x.integer(n);
        }
        for (int n : LOW_AND_HIGH) {
            Check.no("map of " + n, x.map(n));
        }
        Check.no("map of 3 of 4", x.map(3));
        Check.no("map of 9", x.map(9));
        Check.looks("nothing has changed", x, 4, 4, 0, 0, 0, 0, -1, 1);
        Check.yes("map of 0", x.map(0));
        Check.nodes("map of 0", x, 0, 0, 5, 0, -1, 1, 1, -1);
        Check.writtenIs("map of 0", x, 0xa0);
        x.drop();
        Check.yes("map of 2", x.map(2));
        Check.nodes("map of 2", x, 0, 0, 5, 2, -1, 5, 2, -1);
        Check.writtenIs("the deepest is the first key", x, 0xa2, 0, 1, 2, 3);
        for (int n = 1; n < 16; n++) {
            x.integer(5);
        }
        Check.yes("map of 8, with the same key", x.map(8));
        Check.nodes("map of 8", x, 0, 0, 5, 8, -1, 21, 3, -1);
        Check.nodes("its last value", x, 0, 20, 0, -1, -1, 1, 1, 0);
    }

    private static void constructor() {
        Counted x = new Counted();
        x.integer(1);
        for (int n : LOW_AND_HIGH) {
            Check.no("constructor of " + n, x.constructor(0, n));
        }
        Check.no("constructor of 2 of 1", x.constructor(0, 2));
        Check.no("constructor -1", x.constructor(-1, 0));
        Check.no("constructor 128", x.constructor(128, 0));
        Check.no("constructor lowest", x.constructor(Integer.MIN_VALUE, 0));
        Check.no("constructor highest", x.constructor(Integer.MAX_VALUE, 1));
        Check.due("nothing has changed", x.look(0), 1);
        Check.yes("constructor 0", x.constructor(0, 1));
        Check.nodes("constructor 0", x, 0, 0, 6, 1, 0, 2, 2, -1);
        Check.writtenIs("constructor 0", x, 0xd8, 0x79, 0x81, 1);
        Check.yes("constructor 6", x.constructor(6, 0));
        Check.writtenIs("constructor 6", x, 0xd8, 0x7f, 0x80);
        Check.yes("constructor 7", x.constructor(7, 2));
        Check.nodes("constructor 7", x, 0, 0, 6, 2, 7, 4, 3, -1);
        Check.writtenIs("constructor 7", x, 0xd9, 5, 0, 0x82, 0xd8, 0x79, 0x81, 1, 0xd8, 0x7f, 0x80);
        Check.yes("constructor 127", x.constructor(127, 0));
        Check.nodes("constructor 127", x, 0, 0, 6, 0, 127, 1, 1, -1);
        Check.writtenIs("constructor 127", x, 0xd9, 5, 0x78, 0x80);
    }

    private static void copy() {
        Counted x = new Counted();
        Check.no("copy of none", x.copy(0));
        x.integer(1);
        x.bytes(0xaabb, 2);
        x.integer(2);
        x.map(1);
        for (int i : LOW_AND_HIGH) {
            Check.no("copy of " + i, x.copy(i));
        }
        Check.no("copy of 2 of 2", x.copy(2));
        Check.yes("copy of the deepest", x.copy(1));
        Check.due("the deepest", x.value(0, 0), 1);
        Check.yes("copy of the map", x.copy(1));
        Check.writtenIs("the map", x, 0xa1, 0x42, 0xaa, 0xbb, 2);
        Check.looks("both", x, 4, 8, 5, 0, 0, 0, -1, 5);
        Check.due("it is the same", x.compare(0, 2), 0);
        for (int n = 4; n < 16; n++) {
            Check.yes("copy to the 16th", x.copy(n - 1));
        }
        Check.no("a 17th", x.copy(0));
        Check.due("items", x.look(0), 16);
    }

    private static void drop() {
        Counted x = new Counted();
        Check.no("drop of none", x.drop());
        x.integer(1);
        x.integer(2);
        x.integer(3);
        x.list(2);
        Check.yes("drop", x.drop());
        Check.looks("the list is gone", x, 1, 1, 0, 0, 0, 0, -1, 1);
        Check.due("what was below it", x.value(0, 0), 1);
        Check.yes("drop", x.drop());
        Check.no("drop of none", x.drop());
        Check.looks("all are gone", x, 0, 0, 0, 0, 0, 0, -1, -1);
    }

    private static void open() {
        Counted x = new Counted();
        Check.due("open none", x.open(), -1);
        x.integer(1);
        Check.due("open an integer", x.open(), -1);
        x.bytes(1, 1);
        Check.due("open bytes", x.open(), -1);
        Check.due("nothing has changed", x.look(0), 2);
        x.list(0);
        Check.due("open an empty list", x.open(), 0);
        x.map(0);
        Check.due("open an empty map", x.open(), 0);
        x.constructor(3, 0);
        Check.due("open an empty constructor", x.open(), 0);
        Check.looks("they are gone", x, 2, 2, 0, 0, 0, 0, -1, 2);
        x.map(1);
        Check.due("open a map of one pair", x.open(), 2);
        Check.due("the key comes first", x.value(1, 0), 1);
        Check.due("the value is the top", x.byteAt(0, 0, 0), 1);
        x.constructor(9, 2);
        Check.due("open a constructor", x.open(), 2);
        Check.due("its first field comes first", x.value(1, 0), 1);
        x.drop();
        for (int n = 2; n <= 16; n++) {
            x.integer(n);
        }
        x.list(16);
        Check.due("open a list of 16", x.open(), 16);
        Check.due("the last one is the top", x.value(0, 0), 16);
        Check.due("the first one is the deepest", x.value(15, 0), 1);
        x.list(15);
        Check.due("open a list of 15 on one", x.open(), 15);
        Check.due("16 items", x.look(0), 16);
        x.list(16);
        x.copy(0);
        Check.due("no room for 17", x.open(), -1);
        Check.looks("nothing has changed", x, 2, 34, 0, 0, 0, 0, -1, 17);
    }

    private static void openKeepsWhatIsBelow() {
        Counted x = new Counted();
        x.bytes(0x31, 1);
        x.integer(1);
        x.bytes(0x32, 1);
        x.list(2);
        x.bytes(0x33, 1);
        x.list(0);
        x.constructor(2, 3);
        Check.due("open", x.open(), 3);
        Check.looks("three and one", x, 4, 6, 0, 0, 0, 0, -1, 1);
        Check.nodes("the empty list", x, 0, 0, 4, 0, -1, 1, 1, -1);
        Check.due("the bytes", x.byteAt(1, 0, 0), 0x33);
        Check.nodes("the list", x, 2, 0, 4, 2, -1, 3, 2, -1);
        Check.due("bytes in it", x.byteAt(2, 2, 0), 0x32);
        Check.due("what was below", x.byteAt(3, 0, 0), 0x31);
        for (int n = 0; n < 14; n++) {
            x.integer(n);
        }
        Check.due("16 items", x.look(0), 16);
        x.drop();
        x.drop();
        x.drop();
        x.map(1);
        Check.due("12 items", x.look(0), 12);
    }

    private static void roomForNodes() {
        Counted x = new Counted();
        Check.listOf(x, 200);
        for (int n = 0; n < 3; n++) {
            Check.yes("copy of 200 nodes", x.copy(0));
        }
        Check.listOf(x, 100);
        Check.listOf(x, 99);
        Check.looks("999 nodes", x, 6, 999, 0, 0, 0, 0, -1, 100);
        Check.no("1098 nodes", x.copy(0));
        Check.yes("the 1000th node", x.integer(3));
        Check.no("an integer more", x.integer(4));
        Check.no("bytes more", x.bytes(4, 1));
        Check.no("a list more", x.list(0));
        Check.no("a list of one", x.list(1));
        Check.no("a map more", x.map(0));
        Check.no("a map of two", x.map(1));
        Check.no("a constructor more", x.constructor(0, 0));
        Check.no("a constructor of one", x.constructor(0, 1));
        Check.no("a copy more", x.copy(0));
        Check.looks("nothing has changed", x, 7, 1000, 0, 0, 0, 0, -1, 1);
        x.drop();
        Check.yes("a list of one, the 1000th node", x.list(1));
        Check.due("nodes", x.look(1), 1000);
        Check.due("open makes room", x.open(), 1);
        Check.yes("bytes are the 1000th node", x.bytes(1, 1));
        Check.yes("they get more all the same", x.more(1, 8));
        x.drop();
        x.drop();
        Check.listOf(x, 50);
        Check.yes("copy to 1000 nodes", x.copy(0));
        Check.looks("1000 nodes", x, 7, 1000, 0, 0, 0, 0, -1, 51);
    }
}
