import java.util.Arrays;

/**
 * Promise 16 at its edges: of each sentence about READING what is just within and what is just
 * beyond it, with the fault, its place and their order; and that what is refused changes nothing.
 */
public final class EdgeReadTest {
    private static final int[] NO_BYTES = {};
    private static final int[] EIGHT_HIGHEST = {255, 255, 255, 255, 255, 255, 255, 255};

    public static void main(String[] args) {
        inputEnds();
        inputEndsInNumbers();
        fullInputEnds();
        moreBytesThanNeeded();
        moreBytesThanNeededByKind();
        lowestFiveBits();
        kindsThatAreNone();
        integersAbove();
        bytesAbove();
        constructorNumbers();
        whatFollowsAConstructor();
        depth();
        depthOfConstructors();
        depthOfMaps();
        nodes();
        nodesOfConstructors();
        countsHaveNoLimit();
        orderWithinOneHead();
        orderFourAndFive();
        orderOfTheFieldsHead();
        firstFaultEndsIt();
        readGoesOn();
        noneAtTheEnd();
        noneWithSixteen();
        noneAboveThousand();
        faultBeforeRoom();
        faultOfTheLatest();
        Check.end();
    }

    private static int[] join(int[]... parts) {
        int[] all = NO_BYTES;
        for (int[] part : parts) {
            int had = all.length;
            all = Arrays.copyOf(all, had + part.length);
            System.arraycopy(part, 0, all, had, part.length);
        }
        return all;
    }

    private static int[] of(int... bytes) {
        return bytes;
    }

    private static int[] times(int n, int... bytes) {
        int[] all = new int[n * bytes.length];
        for (int k = 0; k < all.length; k++) {
            all[k] = bytes[k % bytes.length];
        }
        return all;
    }

    /** A stack and an output that have something, and the input: 07, which is read, then these. */
    private static Still.Steps behindSeven(int[] bytes) {
        return x -> {
            x.bytes(0xabcd, 2);
            x.write();
            x.integer(-77);
            x.list(2);
            x.give(7, 1);
            States.give(x, bytes);
            Check.due("read 7", x.read(), 0);
        };
    }

    /** The place is that from the bytes' begin on; 07 stands before them. */
    private static void faulty(String what, int fault, int place, int... bytes) {
        Still.fault(what, behindSeven(bytes), fault, place + 1);
    }

    private static void faulty(String what, int fault, int place, int[] begin, int... bytes) {
        faulty(what, fault, place, join(begin, bytes));
    }

    /** All of these are read as one, and written they are the same. */
    private static Counted good(String what, int... bytes) {
        Counted x = new Counted();
        behindSeven(bytes).on(x);
        Check.due(what + ": read()", x.read(), 0);
        Check.due(what + ": items", x.look(0), 3);
        Check.due(what + ": AT", x.look(4), bytes.length + 1);
        Check.due(what + ": fault", x.look(5), 0);
        Check.due(what + ": place", x.look(6), -1);
        Check.due(what + ": bytes", x.look(7), bytes.length);
        x.clear();
        x.write();
        for (int k = 0; k <= bytes.length && x.left() > 10; k++) {
            Check.due(what + ": output(" + k + ")", x.output(k), k < bytes.length ? bytes[k] : -1);
        }
        return x;
    }

    private static int[] number(int kind, int low, long v) {
        int n = 1 << (low - 24);
        int[] head = new int[1 + n];
        head[0] = 32 * kind + low;
        for (int j = 0; j < n; j++) {
            head[n - j] = (int) (v >>> (8 * j)) & 255;
        }
        return head;
    }

    /** "1: the INPUT ends where a byte is to be read (the place is how many bytes it has)." */
    private static void inputEnds() {
        int[][] all = {
            of(0x18, 24), of(0x39, 1, 0), of(0x43, 1, 2, 3), of(0x83, 1, 0x20, 0x40), of(0xa2, 1, 2, 3, 4),
            of(0xd8, 121, 0x82, 5, 6), of(0xd9, 5, 0, 0x80), of(0xd8, 127, 0x81, 0xa1, 0x41, 9, 0x81, 0x17),
            join(of(0xd8, 121, 0x98, 24), times(24, 0)), join(of(0x58, 64), times(64, 200)),
            of(0x82, 0x82, 0x80, 0xa0, 0xd9, 5, 120, 0x81, 0x18, 255),
        };
        for (int[] bytes : all) {
            good("the whole of " + Arrays.toString(bytes), bytes);
            for (int n = 1; n < bytes.length; n++) {
                int[] begin = Arrays.copyOf(bytes, n);
                faulty("an end behind " + Arrays.toString(begin), 1, n, begin);
            }
        }
    }

    /** A number of 1, 2, 4 or 8 bytes ends before any of them; nothing else is seen of it then. */
    private static void inputEndsInNumbers() {
        for (int kind : new int[] {0, 1, 2, 4, 5, 6}) {
            for (int low = 24; low <= 27; low++) {
                int[] none = number(kind, low, 0);
                int[] all = number(kind, low, -1);
                for (int n = 1; n < all.length; n++) {
                    faulty("an end in low zeros", 1, n, Arrays.copyOf(none, n));
                    faulty("an end in high numbers", 1, n, Arrays.copyOf(all, n));
                }
            }
        }
    }

    /** The greatest places: of a fault in the last of 4096 bytes, and of an end behind them. */
    private static void fullInputEnds() {
        Still.fault("an end behind 4096", x -> lastOfFull(x, 0x18), 1, 4096);
        Still.fault("a head in byte 4095", x -> lastOfFull(x, 0xff), 3, 4095);
        Counted x = new Counted();
        lastOfFull(x, 0x17);
        Check.due("data in byte 4095", x.read(), 0);
        Check.looks("all is read", x, 1, 1, 0, 4096, 4096, 0, -1, 1);
    }

    /** The input has 4096 bytes, of which all but the last one, which is this, are read. */
    private static void lastOfFull(Counted x, int last) {
        States.inputOf(x, 4095);
        Check.yes("give the last", x.give(last, 1));
        while (x.look(4) < 4095) {
            Check.due("read", x.read(), 0);
            x.drop();
        }
    }

    /** "2: the number of a HEAD is in more bytes than it needs": the edges are 24, 2^8, 2^16, 2^32. */
    private static void moreBytesThanNeeded() {
        long[] edges = {24, 1L << 8, 1L << 16, 1L << 32};
        for (int kind = 0; kind <= 1; kind++) {
            for (int low = 24; low <= 27; low++) {
                long edge = edges[low - 24];
                Counted x = good("kind " + kind + ", " + edge, number(kind, low, edge));
                Check.due("its value", x.value(0, 0), kind == 0 ? edge : -1 - edge);
                faulty("kind " + kind + ", less than " + edge, 2, 0, number(kind, low, edge - 1));
                faulty("kind " + kind + ", 0 as " + low, 2, 0, number(kind, low, 0));
            }
        }
    }

    /** Of each other kind, too; and of the HEAD that follows one of kind 6, at its place. */
    private static void moreBytesThanNeededByKind() {
        int[] text = times(24, 9);
        good("24 bytes", join(number(2, 24, 24), text));
        faulty("23 bytes in 1", 2, 0, join(number(2, 24, 23), text));
        faulty("64 bytes in 2", 2, 0, join(number(2, 25, 64), text, text, text));
        good("a list of 24", join(number(4, 24, 24), text));
        faulty("a list of 23 in 1", 2, 0, join(number(4, 24, 23), text));
        faulty("a list of 199 in 2", 2, 0, join(number(4, 25, 199), times(199, 1)));
        faulty("a list of 255 in 2", 2, 0, number(4, 25, 255));
        good("a map of 24", join(number(5, 24, 24), text, text));
        faulty("a map of 23 in 1", 2, 0, join(number(5, 24, 23), text, text));
        faulty("a map of 0 in 8", 2, 0, number(5, 27, 0));
        good("constructor 121", join(number(6, 24, 121), of(0x80)));
        faulty("constructor 121 in 2", 2, 0, join(number(6, 25, 121), of(0x80)));
        good("constructor 1280", join(number(6, 25, 1280), of(0x80)));
        faulty("constructor 1280 in 4", 2, 0, join(number(6, 26, 1280), of(0x80)));
        faulty("constructor 1400 in 8", 2, 0, join(number(6, 27, 1400), of(0x80)));
        good("24 fields", join(of(0xd8, 121), number(4, 24, 24), text));
        faulty("23 fields in 1", 2, 2, join(of(0xd8, 121), number(4, 24, 23), text));
        faulty("24 fields in 2", 2, 3, join(of(0xd9, 5, 0), number(4, 25, 24), text));
        faulty("in a list", 2, 2, of(0x82, 1, 0x18, 23));
    }

    /** "3: [..] its byte has the lowest five bits 28 .. 31"; 27 is none of these. */
    private static void lowestFiveBits() {
        for (int kind = 0; kind < 8; kind++) {
            for (int low = 28; low < 32; low++) {
                int head = 32 * kind + low;
                faulty("head " + head, 3, 0, head);
                faulty("head " + head + " before bytes", 3, 0, join(of(head), EIGHT_HIGHEST));
                faulty("head " + head + " in a list", 3, 2, 0x82, 5, head);
                faulty("head " + head + " behind kind 6", 3, 2, 0xd8, 121, head);
            }
        }
        for (int kind : new int[] {0, 1, 2, 4, 5, 6}) {
            faulty("kind " + kind + " and 27", 1, 1, 32 * kind + 27);
        }
        faulty("kind 4 and 27 behind kind 6", 1, 3, 0xd8, 121, 0x9b);
    }

    /** "its kind is 3 or 7". */
    private static void kindsThatAreNone() {
        for (int low : new int[] {0, 1, 23, 24, 27}) {
            faulty("kind 3 and " + low, 3, 0, join(of(0x60 + low), EIGHT_HIGHEST));
            faulty("kind 7 and " + low, 3, 0, join(of(0xe0 + low), EIGHT_HIGHEST));
            faulty("kind 3 in a map, a key", 3, 1, 0xa1, 0x60 + low);
            faulty("kind 7 in a map, a value", 3, 2, 0xa1, 1, 0xe0 + low);
        }
        good("kind 2", 0x41, 0x60);
        good("kind 4", 0x80);
        good("kind 6", 0xd8, 121, 0x80);
    }

    /** "a number of kind 0 or 1 is above 2^63 - 1". */
    private static void integersAbove() {
        for (int kind = 0; kind <= 1; kind++) {
            Counted x = good("the greatest of kind " + kind, number(kind, 27, Long.MAX_VALUE));
            Check.due("its value", x.value(0, 0), kind == 0 ? Long.MAX_VALUE : Long.MIN_VALUE);
            faulty("2^63 of kind " + kind, 3, 0, number(kind, 27, Long.MIN_VALUE));
            faulty("2^64 - 1 of kind " + kind, 3, 0, number(kind, 27, -1));
            faulty("2^63 in a list", 3, 1, join(of(0x81), number(kind, 27, Long.MIN_VALUE)));
        }
    }

    /** "of kind 2 above 64". */
    private static void bytesAbove() {
        Counted x = good("64 bytes", join(of(0x58, 64), times(16, 1, 2, 3, 4)));
        Check.due("64", x.node(0, 0, 1), 64);
        Check.due("the last one", x.byteAt(0, 0, 63), 4);
        faulty("65 bytes", 3, 0, join(of(0x58, 65), times(65, 1)));
        faulty("65 bytes that are not there", 3, 0, 0x58, 65);
        faulty("255 bytes", 3, 0, 0x58, 255);
        faulty("256 bytes", 3, 0, join(number(2, 25, 256), times(256, 1)));
        faulty("65536 bytes", 3, 0, number(2, 26, 65536));
        faulty("2^32 bytes", 3, 0, number(2, 27, 1L << 32));
        faulty("2^32 + 5 bytes", 3, 0, join(number(2, 27, (1L << 32) + 5), times(5, 1)));
        faulty("2^63 bytes", 3, 0, number(2, 27, Long.MIN_VALUE));
        faulty("2^64 - 1 bytes", 3, 0, number(2, 27, -1));
    }

    /** "of kind 6 neither 121 .. 127 nor 1280 .. 1400". */
    private static void constructorNumbers() {
        for (int n : new int[] {121, 122, 126, 127}) {
            Counted x = good("kind 6 and " + n, 0xd8, n, 0x81, 9);
            Check.due("its number", x.node(0, 0, 2), n - 121);
        }
        for (int n : new int[] {1280, 1281, 1399, 1400}) {
            Counted x = good("kind 6 and " + n, join(number(6, 25, n), of(0x81, 9)));
            Check.due("its number", x.node(0, 0, 2), n - 1273);
        }
        for (int n = 0; n < 24; n++) {
            faulty("kind 6 and " + n, 3, 0, 0xc0 + n, 0x80);
        }
        for (int n : new int[] {24, 119, 120, 128, 129, 255}) {
            faulty("kind 6 and " + n, 3, 0, join(number(6, 24, n), of(0x80)));
        }
        for (int n : new int[] {256, 1273, 1278, 1279, 1401, 1402, 65535}) {
            faulty("kind 6 and " + n, 3, 0, join(number(6, 25, n), of(0x80)));
        }
        faulty("kind 6 and 2^16 + 1280", 3, 0, join(number(6, 26, 65536 + 1280), of(0x80)));
        faulty("kind 6 and 2^32 + 121", 3, 0, join(number(6, 27, (1L << 32) + 121), of(0x80)));
        faulty("kind 6 and 2^63 + 121", 3, 0, join(number(6, 27, Long.MIN_VALUE + 121), of(0x80)));
        faulty("kind 6 and 2^64 - 1", 3, 0, join(number(6, 27, -1), of(0x80)));
        faulty("kind 6 and 120 at the end", 3, 0, 0xd8, 120);
    }

    /** "or what follows this is no HEAD of kind 4 (the place is that one's)". */
    private static void whatFollowsAConstructor() {
        for (int head = 0; head < 256; head++) {
            if (head >= 0x80 && head <= 0x9b) {
                continue;
            }
            faulty("behind kind 6, " + head, 3, 2, 0xd8, 121, head);
        }
        for (int n = 0; n <= 23; n++) {
            good("behind kind 6, a list of " + n, join(of(0xd8, 121, 0x80 + n), times(n, 1)));
        }
        faulty("behind 1400, an integer", 3, 3, 0xd9, 5, 120, 0);
        faulty("behind 1400, bytes", 3, 3, 0xd9, 5, 120, 0x40);
        faulty("behind 1400, a map", 3, 3, 0xd9, 5, 120, 0xa0);
        faulty("behind 1400, a constructor", 3, 3, 0xd9, 5, 120, 0xd8, 121, 0x80);
        faulty("in a list", 3, 4, 0x82, 1, 0xd8, 121, 5);
        faulty("behind kind 6, the end", 1, 2, 0xd8, 121);
    }

    /** "4: the DEPTH would be above 12": "a NODE is seen with its HEAD". */
    private static void depth() {
        int[] eleven = times(11, 0x81);
        int[] twelve = times(12, 0x81);
        int[][] inmost = {of(5), of(0x20), of(0x18, 24), of(0x40), of(0x41, 9), of(0x80), of(0xa0),
            of(0xd8, 121, 0x80), of(0xd9, 5, 120, 0x80)};
        for (int[] one : inmost) {
            Counted x = good("12 deep", join(eleven, one));
            Check.due("its depth", x.node(0, 0, 4), 12);
            faulty("13 deep", 4, 12, join(twelve, one));
        }
        faulty("13 deep, bytes that are not there", 4, 12, twelve, 0x45);
        faulty("13 deep, a list that is not there", 4, 12, twelve, 0x85);
        faulty("14 deep", 4, 12, times(13, 0x81), 5);
        faulty("100 deep", 4, 12, times(99, 0x81), 5);
        faulty("12 deep, and the end", 1, 12, twelve);
        good("12 deep twice", join(of(0x82), times(10, 0x81), of(1), times(10, 0x81), of(1)));
        faulty("12 deep, then 13", 4, 23, join(of(0x82), times(10, 0x81), of(1), times(11, 0x81), of(1)));
        good("12 deep, an empty list", join(eleven, of(0x80)));
    }

    /** The list that follows a HEAD of kind 6 is no NODE: "but for that which follows". */
    private static void depthOfConstructors() {
        int[] eleven = times(11, 0xd8, 121, 0x81);
        int[] twelve = times(12, 0xd8, 121, 0x81);
        Counted x = good("12 constructors", join(eleven, of(0xd8, 127, 0x80)));
        Check.due("its depth", x.node(0, 0, 4), 12);
        Check.due("its nodes", x.node(0, 0, 3), 12);
        good("11 constructors and an integer", join(eleven, of(3)));
        faulty("12 constructors and an integer", 4, 36, twelve, 3);
        faulty("13 constructors", 4, 36, twelve, 0xd8, 127, 0x80);
        faulty("a 13th, and the end", 4, 36, twelve, 0xd8, 127);
        faulty("a 13th, and no list", 4, 36, twelve, 0xd8, 127, 0x05);
        faulty("a 13th of 1400, and the end", 4, 36, twelve, 0xd9, 5, 120);
    }

    private static void depthOfMaps() {
        good("12 deep by keys", join(times(11, 0xa1), of(1), times(11, 2)));
        faulty("13 deep by keys", 4, 12, join(times(12, 0xa1), of(1), times(12, 2)));
        good("12 deep by values", join(times(11, 0xa1, 1), of(2)));
        faulty("13 deep, the key", 4, 23, join(times(11, 0xa1, 1), of(0xa1, 3, 4)));
        faulty("13 deep, behind a value of depth 12", 4, 12, join(times(11, 0xa1), of(0x81, 1)));
    }

    /** "5: there would be more than 200 NODES." */
    private static void nodes() {
        Counted x = good("a list of 199", join(of(0x98, 199), times(199, 3)));
        Check.due("200 nodes", x.node(0, 0, 3), 200);
        faulty("a list of 200", 5, 201, join(of(0x98, 200), times(200, 3)));
        faulty("a list of 200 without its last", 1, 201, join(of(0x98, 200), times(199, 3)));
        faulty("a list of 255", 5, 201, join(of(0x98, 255), times(255, 3)));
        good("a map of 99", join(of(0xb8, 99), times(198, 3)));
        faulty("a map of 100", 5, 201, join(of(0xb8, 100), times(200, 3)));
        faulty("a map of 100 without its last", 1, 201, join(of(0xb8, 100), times(199, 3)));
        int[] many = join(of(0x98, 200), times(199, 3));
        int[][] last = {of(5), of(0x20), of(0x18, 24), of(0x40), of(0x41, 9), of(0x45), of(0x80), of(0x81),
            of(0xa0), of(0xd8, 121, 0x80), of(0xd8, 121), of(0xd8, 121, 5)};
        for (int[] one : last) {
            faulty("the 201st is " + Arrays.toString(one), 5, 201, join(many, one));
        }
        int[] wide = times(199, 0x41, 9);
        good("200 nodes in more bytes", join(of(0x98, 199), wide));
        faulty("201 nodes in more bytes", 5, 400, join(of(0x98, 200), wide, of(0x41, 9)));
    }

    private static void nodesOfConstructors() {
        int[] fifty = join(of(0xd8, 121, 0x98, 49), times(49, 3));
        int[] less = join(of(0xd8, 121, 0x98, 48), times(48, 3));
        int[] head = of(0xd9, 5, 0, 0x84);
        Counted x = good("1 and 3 times 50 and 49", join(head, fifty, fifty, fifty, less));
        Check.due("200 nodes", x.node(0, 0, 3), 200);
        faulty("1 and 4 times 50", 5, 4 + 4 * 53 - 1, join(head, fifty, fifty, fifty, fifty));
        good("66 times 3 nodes", join(of(0x98, 66), times(66, 0xd8, 121, 0x82, 1, 2)));
    }

    /** No number of kind 4 or 5 is a fault: what its count would bring is. */
    private static void countsHaveNoLimit() {
        long[] counts = {65536, 1L << 31, (1L << 32) - 1, 1L << 32, 1L << 62, Long.MAX_VALUE, Long.MIN_VALUE, -1};
        for (long n : counts) {
            int low = n > 0 && n < 1L << 32 ? 26 : 27;
            for (int kind = 4; kind <= 5; kind++) {
                int[] head = number(kind, low, n);
                int at = head.length;
                faulty("a count and the end", 1, at, head);
                faulty("a count and one", 1, at + 1, head, 1);
                faulty("a count and two", 1, at + 2, head, 1, 2);
                faulty("a count and fault 2", 2, at, head, 0x18, 1);
                faulty("a count and fault 3", 3, at + 1, head, 1, 0xff);
                faulty("a count and 199", 1, at + 199, join(head, times(199, 1)));
                faulty("a count and 200", 5, at + 199, join(head, times(200, 1)));
            }
            int[] fields = join(of(0xd8, 121), number(4, low, n));
            faulty("a count of fields and the end", 1, fields.length, fields);
            faulty("a count of fields and 200", 5, fields.length + 199, join(fields, times(200, 1)));
        }
        good("a list of 0", 0x80);
        faulty("a list of 256 and the end", 1, 3, 0x99, 1, 0);
    }

    /** "Of one HEAD: 3 for its lowest five bits or kind [..], 1 for its number, 2, 3 for its number, then 4, 5". */
    private static void orderWithinOneHead() {
        int[] deep = times(12, 0x81);
        int[] many = join(of(0x98, 200), times(199, 3));
        for (int[] begin : new int[][] {NO_BYTES, deep, many}) {
            int at = begin.length;
            faulty("3 for bits before 1", 3, at, begin, 0x1c);
            faulty("3 for a kind before 1", 3, at, begin, 0x78);
            faulty("3 for a kind before 2", 3, at, begin, 0x78, 0);
            faulty("1 before 2", 1, at + 2, begin, 0x19, 0);
            faulty("1 before 3 for a number", 1, at + 2, begin, 0x59, 255);
            faulty("1 before 3 for a constructor's", 1, at + 1, begin, 0xd8);
            faulty("2 before 3 for a number", 2, at, begin, 0x59, 0, 200);
            faulty("2 before 3 for a constructor's", 2, at, begin, 0xd8, 5);
            faulty("3 for a number", 3, at, begin, 0x58, 65);
            faulty("3 for a constructor's", 3, at, begin, 0xd8, 120);
            faulty("3 for 2^63", 3, at, join(begin, number(0, 27, Long.MIN_VALUE)));
            faulty("2 alone", 2, at, begin, 0x18, 5);
        }
    }

    private static void orderFourAndFive() {
        int[] deepAndMany = join(of(0x98, 189), times(188, 3), times(11, 0x81));
        faulty("4 before 5: the 201st node is 13 deep", 4, 201, deepAndMany, 3);
        int[] many = join(of(0x98, 190), times(189, 3), times(10, 0x81));
        faulty("5: the 201st node is 12 deep", 5, 201, many, 3);
        int[] deep = join(of(0x98, 188), times(187, 3), times(11, 0x81));
        faulty("4: the 200th node is 13 deep", 4, 200, deep, 3);
        int[] within = join(of(0x98, 189), times(188, 3), times(10, 0x81), of(3));
        good("the 200th node is 12 deep", within);
        faulty("3 before both", 3, 201, deepAndMany, 0x58, 65);
        faulty("1 before both", 1, 202, deepAndMany, 0x58);
    }

    /** The HEAD behind one of kind 6 has 3 for bits or kind, then 1, then 2, and no 4 or 5. */
    private static void orderOfTheFieldsHead() {
        int[] deep = join(times(11, 0x81), of(0xd8, 121));
        int[] many = join(of(0x98, 199), times(198, 3), of(0xd8, 121));
        for (int[] begin : new int[][] {of(0xd8, 121), deep, many}) {
            int at = begin.length;
            faulty("3 for another kind before 1", 3, at, begin, 0x18);
            faulty("3 for another kind before 2", 3, at, begin, 0x18, 0);
            faulty("3 for bits", 3, at, begin, 0x9c);
            faulty("1 for its number", 1, at + 2, begin, 0x99, 0);
            faulty("2 for its number", 2, at, begin, 0x99, 0, 1);
            good("no fields", join(begin, of(0x80)));
        }
        faulty("a field 13 deep", 4, deep.length + 1, deep, 0x81, 1);
        faulty("a field, the 201st node", 5, many.length + 1, many, 0x81, 1);
    }

    /** "goes from byte to byte; the first FAULT that is seen ends it". */
    private static void firstFaultEndsIt() {
        faulty("2 before a later 3", 2, 1, 0x82, 0x18, 5, 0xff);
        faulty("3 before a later 2", 3, 1, 0x82, 0xff, 0x18, 5);
        faulty("3 before the end", 3, 1, 0x85, 0xff);
        faulty("4 before a later 3", 4, 12, join(times(12, 0x82), of(1, 0xff)));
        faulty("bytes are no heads", 1, 4, 0x82, 0x42, 0xff, 0x1c);
        good("bytes are no heads", 0x82, 0x43, 0xff, 0x1c, 0x60, 1);
        Counted x = new Counted();
        States.give(x, 5, 0xff);
        Check.due("what is behind the data is not looked at", x.read(), 0);
        Check.due("AT", x.look(4), 1);
    }

    /** "0, the DATA come to the STACK, and AT is behind them". */
    private static void readGoesOn() {
        Counted x = new Counted();
        States.give(x, 0x82, 1, 2, 0x40, 0xd8, 121, 0x80);
        int[] ends = {3, 4, 7};
        for (int n = 0; n < 3; n++) {
            Check.due("read", x.read(), 0);
            Check.due("AT", x.look(4), ends[n]);
            Check.due("items", x.look(0), n + 1);
        }
        Check.due("the top is the last one", x.node(0, 0, 0), 6);
        Check.due("the first one is the deepest", x.node(2, 0, 0), 4);
        Still.none("read at the end", y -> {
            States.give(y, 0x81, 1);
            y.read();
        }, y -> y.read());
    }

    /** "NONE if AT is at the INPUT's end [..] the fault stays as it was then." */
    private static void noneAtTheEnd() {
        Still.none("read of none", States::nothing, x -> x.read());
        Still.none("read of none, with a fault", x -> {
            States.two(x);
            x.cut(0);
        }, x -> x.read());
        Still.none("read of all", x -> {
            States.two(x);
            x.cut(3);
            x.read();
            x.read();
        }, x -> x.read());
        Still.none("read of an empty output", x -> {
            States.two(x);
            x.clear();
            x.turn();
        }, x -> x.read());
        Still.none("read at the end, the stack full", x -> {
            States.integers(16).on(x);
            x.cut(0);
        }, x -> x.read());
        Counted x = new Counted();
        States.two(x);
        x.cut(0);
        x.read();
        Check.due("the fault stays", x.look(5), 3);
        Check.due("and its place", x.look(6), 3);
        Still.none("read at the end of 4096", y -> {
            States.inputOf(y, 4096);
            while (y.look(4) < 4096) {
                y.read();
                y.drop();
            }
        }, y -> y.read());
    }

    /** "or the STACK has 16 [..] the fault stays as it was then." */
    private static void noneWithSixteen() {
        Counted x = new Counted();
        States.integers(15).on(x);
        x.cut(1);
        Check.due("read with 15", x.read(), 0);
        Check.looks("16 items", x, 16, 16, 3, 1, 1, 0, -1, 1);
        Still.none("read with 16", y -> {
            States.integers(16).on(y);
            y.cut(3);
        }, y -> y.read());
        Still.none("read with 16, before a fault", States.integers(16), y -> y.read());
        Still.fault("read with 15, before a fault", States.integers(15), 3, 3);
        x = new Counted();
        States.integers(16).on(x);
        x.cut(0);
        x.give(0x1805, 2);
        Check.due("NONE", x.read(), -1);
        Check.due("the fault stays", x.look(5), 3);
        Check.due("and its place", x.look(6), 3);
        x.drop();
        Check.due("the fault with 15", x.read(), 2);
        Check.due("its place", x.look(6), 0);
    }

    /** "or (they being read without a fault) it would have more than 1000 NODES: the fault stays". */
    private static void noneAboveThousand() {
        readOn(999, 0, 5);
        readOn(1000, -1, 5);
        readOn(997, 0, 0x82, 1, 2);
        readOn(998, -1, 0x82, 1, 2);
        readOn(998, 0, 0xd8, 121, 0x81, 1);
        readOn(999, -1, 0xd8, 121, 0x81, 1);
        int[] most = join(of(0x98, 199), times(199, 1));
        readOn(800, 0, most);
        readOn(801, -1, most);
        readOn(1000, -1, most);
    }

    private static void readOn(int nodes, int want, int... bytes) {
        Still.Steps before = x -> {
            States.nodes(nodes).on(x);
            x.cut(0);
            States.give(x, bytes);
        };
        if (want == -1) {
            Still.none("read on " + nodes + " nodes", before, x -> x.read());
            return;
        }
        Counted x = new Counted();
        before.on(x);
        Check.due("read on " + nodes + " nodes", x.read(), want);
        Check.due("1000 nodes", x.look(1), 1000);
        Check.due("no fault any more", x.look(5), 0);
        Check.due("no place any more", x.look(6), -1);
        Check.due("AT", x.look(4), bytes.length);
    }

    /** What has a fault is no DATA: it answers the fault also where there would be no room. */
    private static void faultBeforeRoom() {
        fullFault("an end", 1, 3, 0x83, 1, 2);
        fullFault("too wide", 2, 1, 0x81, 0x18, 0);
        fullFault("a head", 3, 2, 0x82, 1, 0xff);
        fullFault("too deep", 4, 12, join(times(12, 0x81), of(1)));
        fullFault("too many", 5, 201, join(of(0x98, 200), times(200, 1)));
    }

    private static void fullFault(String what, int fault, int place, int... bytes) {
        Still.fault(what + " on 1000 nodes", x -> {
            States.nodes(1000).on(x);
            x.cut(0);
            States.give(x, bytes);
        }, fault, place);
    }

    /** "5: the fault of the latest read() (0 if it had none), 6: its place (NONE without one)". */
    private static void faultOfTheLatest() {
        Counted x = new Counted();
        int[][] inputs = {of(0x18), of(0x18, 0), of(5), of(0x81, 0xff), times(13, 0x81), of(0x40),
            join(of(0x98, 200), times(200, 1)), of(0x80)};
        int[] faults = {1, 2, 0, 3, 4, 0, 5, 0};
        int[] places = {1, 0, -1, 1, 12, -1, 201, -1};
        for (int n = 0; n < inputs.length; n++) {
            x.cut(0);
            States.give(x, inputs[n]);
            Check.due("read " + n, x.read(), faults[n]);
            Check.due("its fault", x.look(5), faults[n]);
            Check.due("its place", x.look(6), places[n]);
            x.integer(1);
            x.write();
            x.clear();
            Check.due("the fault stays, whatever else is called", x.look(5), faults[n]);
            Check.due("and its place", x.look(6), places[n]);
        }
    }
}
