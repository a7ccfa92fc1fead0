import java.util.Arrays;

/** Promises 13 to 16: the input, and reading with all faults, their places and their order. */
public final class ReadTest {
    private static final int[] WRONG_LENGTHS = {Integer.MIN_VALUE, -8, -1, 0, 9, 64, Integer.MAX_VALUE};

    public static void main(String[] args) {
        give();
        cut();
        oneBehindTheOther();
        kinds();
        endOfInput();
        tooWide();
        wrongHeads();
        wrongNumbers();
        constructorHeads();
        greatCounts();
        tooDeep();
        tooManyNodes();
        orderOfFaults();
        placesFromLaterReadings();
        noneWithoutRoom();
        faultChangesNothing();
        Check.end();
    }

    /** Reads these bytes on an empty stack: the fault, its place, and that all else stays. */
    private static void fault(String what, int want, int place, int... bytes) {
        Counted x = new Counted();
        Check.feed(x, bytes);
        Check.due(what + ": read()", x.read(), want);
        Check.looks(what, x, 0, 0, 0, bytes.length, 0, want, place, -1);
    }

    /** Reads these bytes on an empty stack, to their end, and writes them again. */
    private static Counted good(String what, int... bytes) {
        Counted x = new Counted();
        Check.feed(x, bytes);
        Check.due(what + ": read()", x.read(), 0);
        Check.due(what + ": items", x.look(0), 1);
        Check.due(what + ": AT", x.look(4), bytes.length);
        Check.due(what + ": fault", x.look(5), 0);
        Check.due(what + ": place", x.look(6), -1);
        Check.writtenIs(what, x, bytes);
        return x;
    }

    private static int[] with(int[] bytes, int... behind) {
        int[] all = Arrays.copyOf(bytes, bytes.length + behind.length);
        System.arraycopy(behind, 0, all, bytes.length, behind.length);
        return all;
    }

    private static int[] times(int n, int b) {
        int[] all = new int[n];
        Arrays.fill(all, b);
        return all;
    }

    private static void give() {
        Counted x = new Counted();
        for (int n : WRONG_LENGTHS) {
            Check.no("give of " + n, x.give(1, n));
        }
        Check.due("none came", x.look(3), 0);
        Check.yes("give 4", x.give(0x7f7f42aabb17L, 4));
        Check.due("4 bytes", x.look(3), 4);
        Check.due("read bytes", x.read(), 0);
        Check.writtenIs("the highest first", x, 0x42, 0xaa, 0xbb);
        Check.due("read 23", x.read(), 0);
        Check.due("23", x.value(0, 0), 23);
        Check.due("read at the end", x.read(), -1);
        Check.yes("give 1", x.give(-1 - 0xf0, 1));
        Check.due("AT stays", x.look(4), 4);
        Check.due("read on", x.read(), 0);
        Check.due("15", x.value(0, 0), 15);
        giveToTheEnd();
    }

    private static void giveToTheEnd() {
        Counted x = new Counted();
        States.inputOf(x, 4088);
        Check.yes("4095 bytes", x.give(0, 7));
        Check.no("4097 bytes", x.give(0, 2));
        Check.due("4095 bytes stay", x.look(3), 4095);
        Check.yes("4096 bytes", x.give(0, 1));
        Check.no("4097 bytes", x.give(0, 1));
        Check.due("4096 bytes stay", x.look(3), 4096);
        Check.yes("cut(4090)", x.cut(4090));
        Check.no("4098 bytes", x.give(0, 8));
        Check.yes("4096 bytes once more", x.give(0, 6));
    }

    private static void cut() {
        Counted x = new Counted();
        Check.no("cut(1) of none", x.cut(1));
        Check.yes("cut(0) of none", x.cut(0));
        Check.give(x, 1, 2, 3);
        x.read();
        x.read();
        Check.due("AT", x.look(4), 2);
        Check.no("cut(4) of 3", x.cut(4));
        Check.no("cut(-1)", x.cut(-1));
        Check.no("cut(lowest)", x.cut(Integer.MIN_VALUE));
        Check.no("cut(highest)", x.cut(Integer.MAX_VALUE));
        Check.looks("nothing has changed", x, 2, 2, 0, 3, 2, 0, -1, 1);
        Check.yes("cut(3) of 3", x.cut(3));
        Check.looks("AT is 0", x, 2, 2, 0, 3, 0, 0, -1, 1);
        x.read();
        Check.due("the first one once more", x.value(0, 0), 1);
        Check.yes("cut(1)", x.cut(1));
        Check.due("one byte", x.look(3), 1);
        Check.no("cut(2) of 1", x.cut(2));
        Check.give(x, 9);
        x.read();
        Check.due("the first one", x.value(0, 0), 1);
        x.read();
        Check.due("what came instead", x.value(0, 0), 9);
        Check.feed(x, 0x18);
        x.read();
        Check.yes("cut(0)", x.cut(0));
        Check.due("the fault stays", x.look(5), 1);
        Check.due("and its place", x.look(6), 1);
    }

    private static void oneBehindTheOther() {
        Counted x = new Counted();
        Check.feed(x, 0x82, 1, 2, 0x41, 5, 0x18, 0x17, 3);
        Check.due("read a list", x.read(), 0);
        Check.due("AT", x.look(4), 3);
        Check.due("read bytes", x.read(), 0);
        Check.due("AT", x.look(4), 5);
        Check.due("read a fault", x.read(), 2);
        Check.looks("at its place", x, 2, 4, 0, 8, 5, 2, 5, 2);
        Check.due("the same fault once more", x.read(), 2);
        Check.yes("cut the fault", x.cut(3));
        Check.due("the fault stays", x.look(5), 2);
        Check.due("read a list", x.read(), 0);
        Check.looks("no fault any more", x, 3, 7, 0, 3, 3, 0, -1, 3);
        Check.due("the list is the same", x.compare(0, 2), 0);
    }

    private static void kinds() {
        good("0", 0);
        good("-1", 0x20);
        good("2^63 - 1", 0x1b, 127, 255, 255, 255, 255, 255, 255, 255);
        Counted x = good("-2^63", 0x3b, 127, 255, 255, 255, 255, 255, 255, 255);
        Check.due("its value", x.value(0, 0), Long.MIN_VALUE);
        good("2^32", 0x1b, 0, 0, 0, 1, 0, 0, 0, 0);
        good("2^32 - 1", 0x1a, 255, 255, 255, 255);
        good("2^16", 0x1a, 0, 1, 0, 0);
        good("2^16 - 1", 0x19, 255, 255);
        good("2^8", 0x19, 1, 0);
        good("2^8 - 1", 0x18, 255);
        good("24", 0x18, 24);
        good("no bytes", 0x40);
        good("24 bytes", with(new int[] {0x58, 24}, times(24, 200)));
        good("64 bytes", with(new int[] {0x58, 64}, times(64, 255)));
        good("a map with one key twice", 0xa2, 1, 2, 1, 3);
        x = good("nested", 0xd8, 0x7a, 0x83, 0xa1, 0x41, 9, 0x80, 0x20, 0xd9, 5, 0x78, 0x81, 0x17);
        Check.nodes("nested", x, 0, 0, 6, 3, 1, 7, 3, -1);
        Check.nodes("the map", x, 0, 1, 5, 1, -1, 3, 2, 0);
        Check.nodes("the key", x, 0, 2, 2, 1, -1, 1, 1, 1);
        Check.nodes("the value", x, 0, 3, 4, 0, -1, 1, 1, 1);
        Check.nodes("the integer", x, 0, 4, 0, -1, -1, 1, 1, 0);
        Check.nodes("the constructor", x, 0, 5, 6, 1, 127, 2, 2, 0);
        Check.nodes("its field", x, 0, 6, 0, -1, -1, 1, 1, 5);
    }

    private static void endOfInput() {
        fault("no number of 1", 1, 1, 0x18);
        fault("half a number of 2", 1, 2, 0x19, 1);
        fault("a number of 4 without its last", 1, 4, 0x1a, 1, 1, 1);
        fault("a number of 8 without its last", 1, 8, 0x3b, 1, 1, 1, 1, 1, 1, 1);
        fault("bytes that are not there", 1, 1, 0x41);
        fault("bytes without their last", 1, 3, 0x43, 1, 2);
        fault("64 bytes without their last", 1, 65, with(new int[] {0x58, 64}, times(63, 0)));
        fault("a list without its one", 1, 1, 0x81);
        fault("a list without its second", 1, 2, 0x82, 1);
        fault("a map without its value", 1, 2, 0xa1, 1);
        fault("a map without its second key", 1, 3, 0xa2, 1, 2);
        fault("half a constructor's number", 1, 2, 0xd9, 5);
        fault("a constructor without a list", 1, 2, 0xd8, 0x79);
        fault("a constructor, half a list's number", 1, 3, 0xd8, 0x79, 0x98);
        fault("a constructor without its field", 1, 3, 0xd8, 0x79, 0x81);
        fault("an end within the inner", 1, 4, 0x82, 0x82, 1, 0x18);
        fault("an end far away from its head", 1, 3, 0x1b, 0, 0);
    }

    private static void tooWide() {
        fault("0 in 1", 2, 0, 0x18, 0);
        fault("23 in 1", 2, 0, 0x18, 23);
        fault("255 in 2", 2, 0, 0x19, 0, 255);
        fault("65535 in 4", 2, 0, 0x1a, 0, 0, 255, 255);
        fault("2^32 - 1 in 8", 2, 0, 0x1b, 0, 0, 0, 0, 255, 255, 255, 255);
        fault("-24 in 1", 2, 0, 0x38, 23);
        fault("5 bytes in 1", 2, 0, 0x58, 5, 1, 2, 3, 4, 5);
        fault("65 bytes in 2", 2, 0, 0x59, 0, 65);
        fault("a list of 1 in 1", 2, 0, 0x98, 1, 1);
        fault("a map of 1 in 2", 2, 0, 0xb9, 0, 1, 1, 1);
        fault("a constructor in 2", 2, 0, 0xd9, 0, 121, 0x80);
        fault("a constructor in 4", 2, 0, 0xda, 0, 0, 5, 0, 0x80);
        fault("its list in 1", 2, 2, 0xd8, 0x79, 0x98, 0);
        fault("within a list", 2, 2, 0x82, 1, 0x18, 5);
        good("2^8 in 2", 0x19, 1, 0);
    }

    private static void wrongHeads() {
        for (int kind = 0; kind < 8; kind++) {
            for (int low = 28; low < 32; low++) {
                fault("kind " + kind + " with " + low, 3, 0, 32 * kind + low);
                fault("kind " + kind + " with " + low + " in a list", 3, 1, 0x81, 32 * kind + low, 0);
                fault("kind " + kind + " with " + low + " in a constructor", 3, 2, 0xd8, 0x79, 32 * kind + low);
            }
        }
        for (int low = 0; low < 28; low++) {
            fault("kind 3 with " + low, 3, 0, 0x60 + low);
            fault("kind 7 with " + low, 3, 0, 0xe0 + low);
            fault("kind 7 with " + low + " in a map", 3, 2, 0xa1, 1, 0xe0 + low, 0);
        }
    }

    private static void wrongNumbers() {
        fault("2^63", 3, 0, 0x1b, 128, 0, 0, 0, 0, 0, 0, 0);
        fault("2^64 - 1", 3, 0, 0x1b, 255, 255, 255, 255, 255, 255, 255, 255);
        fault("-1 - 2^63", 3, 0, 0x3b, 128, 0, 0, 0, 0, 0, 0, 0);
        fault("-2^64", 3, 0, 0x3b, 255, 255, 255, 255, 255, 255, 255, 255);
        fault("65 bytes", 3, 0, 0x58, 65);
        fault("65 bytes that are there", 3, 0, with(new int[] {0x58, 65}, times(65, 0)));
        fault("256 bytes", 3, 0, 0x59, 1, 0);
        fault("2^32 bytes", 3, 0, 0x5b, 0, 0, 0, 1, 0, 0, 0, 0);
        fault("2^63 bytes", 3, 0, 0x5b, 128, 0, 0, 0, 0, 0, 0, 0);
        fault("2^64 - 1 bytes", 3, 0, 0x5b, 255, 255, 255, 255, 255, 255, 255, 255);
        fault("within a list", 3, 2, 0x82, 1, 0x58, 65);
    }

    private static void constructorHeads() {
        int[] wrong = {0, 23, 24, 25, 120, 128, 255, 256, 1273, 1279, 1401, 65535};
        for (int n : wrong) {
            int[] head = n < 24 ? new int[] {0xc0 + n}
                : n < 256 ? new int[] {0xd8, n} : new int[] {0xd9, n / 256, n % 256};
            fault("kind 6 with " + n, 3, 0, with(head, 0x80));
            fault("kind 6 with " + n + " at the end", 3, 0, head);
        }
        fault("kind 6 with 2^16 + 121", 3, 0, 0xda, 0, 1, 0, 121, 0x80);
        fault("kind 6 with 2^32 + 121", 3, 0, 0xdb, 0, 0, 0, 1, 0, 0, 0, 121, 0x80);
        fault("kind 6 with 2^63", 3, 0, 0xdb, 128, 0, 0, 0, 0, 0, 0, 0, 0x80);
        int[] right = {121, 127, 1280, 1281, 1400};
        for (int n : right) {
            int[] head = n < 256 ? new int[] {0xd8, n} : new int[] {0xd9, n / 256, n % 256};
            Counted x = good("kind 6 with " + n, with(head, 0x81, 5));
            Check.due("its number", x.node(0, 0, 2), n < 128 ? n - 121 : n - 1273);
            fault("kind 6 with " + n + " and an integer", 3, head.length, with(head, 5));
            fault("kind 6 with " + n + " and a map", 3, head.length, with(head, 0xa0));
        }
        fault("a constructor and another one's head", 3, 2, 0xd8, 0x79, 0xd8, 0x79, 0x80);
        fault("no list, its number at the end", 3, 2, 0xd8, 0x79, 0x18);
        fault("no list, its number too wide", 3, 2, 0xd8, 0x79, 0x18, 0);
    }

    /** A count has no limit: what follows has the fault. */
    private static void greatCounts() {
        fault("a list of 2^64 - 1", 1, 9, with(new int[] {0x9b}, times(8, 255)));
        fault("a map of 2^64 - 1", 1, 9, with(new int[] {0xbb}, times(8, 255)));
        fault("a list of 2^63", 1, 10, 0x9b, 128, 0, 0, 0, 0, 0, 0, 0, 1);
        fault("a map of 2^63", 1, 10, 0xbb, 128, 0, 0, 0, 0, 0, 0, 0, 1);
        fault("a list of 2^32", 3, 10, 0x9b, 0, 0, 0, 1, 0, 0, 0, 0, 1, 0xff);
        fault("a map of 2^31", 2, 5, 0xba, 128, 0, 0, 0, 0x18, 1);
        fault("a list of 2^31", 1, 6, 0x9a, 128, 0, 0, 0, 1);
        fault("a list of 200", 1, 5, 0x98, 200, 1, 2, 3);
        fault("a constructor of 2^64 - 1", 1, 11, with(new int[] {0xd8, 0x79, 0x9b}, times(8, 255)));
        int[] many = with(new int[] {0x9b, 255, 255, 255, 255, 255, 255, 255, 255}, times(300, 1));
        fault("a list of 2^64 - 1, and 300 of them", 5, 208, many);
        many = with(new int[] {0xbb, 128, 0, 0, 0, 0, 0, 0, 0}, times(300, 1));
        fault("a map of 2^63, and 300 of them", 5, 208, many);
    }

    private static void tooDeep() {
        Counted x = good("12 deep", with(times(11, 0x81), 5));
        Check.due("its depth", x.node(0, 0, 4), 12);
        Check.due("the inmost one's", x.node(0, 11, 4), 1);
        good("12 lists", with(times(11, 0x81), 0x80));
        fault("13 deep", 4, 12, with(times(12, 0x81), 5));
        fault("13 lists", 4, 12, with(times(12, 0x81), 0x80));
        fault("12 lists and the end", 1, 12, times(12, 0x81));
        fault("13 deep in the second", 4, 13, with(with(new int[] {0x82, 7}, times(11, 0x81)), 5));
        fault("13 deep, bytes that are not there", 4, 12, with(times(12, 0x81), 0x44));
        int[] constructors = new int[36];
        for (int n = 0; n < 36; n += 3) {
            constructors[n] = 0xd8;
            constructors[n + 1] = 0x79;
            constructors[n + 2] = 0x81;
        }
        fault("13 constructors", 4, 36, with(constructors, 0xd8, 0x79, 0x80));
        fault("a 13th constructor without a list", 4, 36, with(constructors, 0xd8, 0x79, 0x05));
        fault("a 13th constructor and the end", 4, 36, with(constructors, 0xd8, 0x79));
        int[] eleven = Arrays.copyOf(constructors, 33);
        x = good("12 constructors", with(eleven, 0xd8, 0x7f, 0x80));
        Check.due("12 deep", x.node(0, 0, 4), 12);
        fault("maps 13 deep, a key", 4, 12, with(times(12, 0xa1), 1, 1));
        fault("maps 12 deep, then 13", 4, 13, with(times(11, 0xa1), 1, 0x81, 1));
    }

    private static void tooManyNodes() {
        Counted x = good("200 nodes", with(new int[] {0x98, 199}, times(199, 3)));
        Check.due("200 nodes", x.node(0, 0, 3), 200);
        fault("201 nodes", 5, 201, with(new int[] {0x98, 200}, times(200, 3)));
        fault("a list of 200, 199 there", 1, 201, with(new int[] {0x98, 200}, times(199, 3)));
        good("a map of 99 pairs", with(new int[] {0xb8, 99}, times(198, 3)));
        fault("a map of 100 pairs", 5, 201, with(new int[] {0xb8, 100}, times(200, 3)));
        fault("bytes are the 201st", 5, 201, with(new int[] {0x98, 200}, with(times(199, 3), 0x45)));
        int[] two = with(new int[] {0x82, 0x98, 100}, with(times(100, 1), 0x98, 97));
        good("two lists, 200 nodes", with(two, times(97, 1)));
        two[104] = 98;
        fault("two lists, 201 nodes", 5, 202, with(two, times(98, 1)));
        int[] fields = with(new int[] {0xd8, 0x79, 0x98, 200}, times(199, 3));
        fault("a constructor is the 201st", 5, 203, with(fields, 0xd8, 0x79));
        fields[3] = 199;
        good("a constructor of 200 nodes", fields);
    }

    private static void orderOfFaults() {
        int[] deep = times(12, 0x81);
        fault("3 for bits before 4", 3, 12, with(deep, 0x1c));
        fault("3 for a kind before 4", 3, 12, with(deep, 0x60));
        fault("1 for a number before 4", 1, 13, with(deep, 0x18));
        fault("2 before 4", 2, 12, with(deep, 0x18, 5));
        fault("3 for a number before 4", 3, 12, with(deep, 0x58, 65));
        fault("3 for a constructor's before 4", 3, 12, with(deep, 0xc0, 0x80));
        int[] many = with(new int[] {0x98, 200}, times(199, 3));
        fault("3 for bits before 5", 3, 201, with(many, 0x1c));
        fault("1 for a number before 5", 1, 202, with(many, 0x18));
        fault("2 before 5", 2, 201, with(many, 0x18, 5));
        fault("3 for a number before 5", 3, 201, with(many, 0x58, 65));
        int[] both = with(with(new int[] {0x98, 189}, times(188, 3)), times(11, 0x81));
        fault("4 before 5, of the 201st node, 13 deep", 4, 201, with(both, 3));
        both = with(with(new int[] {0x98, 190}, times(189, 3)), times(10, 0x81));
        fault("5, of the 201st node, 12 deep", 5, 201, with(both, 3));
        fault("3 for bits before 1", 3, 0, 0x7b);
        fault("1 before 2", 1, 2, 0x19, 0);
        fault("2 before 3", 2, 0, 0x59, 0, 200);
        fault("2 before 3, kind 6", 2, 0, 0xd8, 5);
        fault("the first one counts", 2, 1, 0x82, 0x18, 5, 0xff);
    }

    private static void placesFromLaterReadings() {
        Counted x = new Counted();
        Check.feed(x, 1, 2, 0x81, 0x58, 65);
        x.read();
        x.read();
        Check.due("a fault behind two", x.read(), 3);
        Check.looks("its place is the input's", x, 2, 2, 0, 5, 2, 3, 3, 1);
        Check.feed(x, 1, 0x82, 3);
        x.read();
        Check.due("an end behind one", x.read(), 1);
        Check.looks("its place is the input's", x, 3, 3, 0, 3, 1, 1, 3, 1);
        Check.give(x, 4);
        Check.due("it goes on when more is given", x.read(), 0);
        Check.looks("no fault any more", x, 4, 6, 0, 4, 4, 0, -1, 3);
    }

    private static void noneWithoutRoom() {
        Counted x = new Counted();
        Check.feed(x, 0x18);
        Check.due("a fault", x.read(), 1);
        x.cut(0);
        Check.due("NONE at the end", x.read(), -1);
        Check.looks("the fault stays", x, 0, 0, 0, 0, 0, 1, 1, -1);
        for (int n = 0; n < 16; n++) {
            x.integer(n);
        }
        Check.feed(x, 1);
        Check.due("NONE with 16", x.read(), -1);
        Check.feed(x, 0xff);
        Check.due("NONE with 16, whatever the bytes", x.read(), -1);
        Check.looks("the fault stays", x, 16, 16, 0, 1, 0, 1, 1, 1);
        x.drop();
        Check.due("a fault with 15", x.read(), 3);
        noneAboveThousand();
    }

    private static void noneAboveThousand() {
        Counted x = new Counted();
        Check.listOf(x, 200);
        x.copy(0);
        x.copy(0);
        x.copy(0);
        Check.listOf(x, 198);
        Check.feed(x, 0x58, 65);
        Check.due("a fault", x.read(), 3);
        Check.feed(x, 0x82, 1, 2);
        Check.due("1001 nodes", x.read(), -1);
        Check.looks("the fault stays", x, 5, 998, 0, 3, 0, 3, 0, 199);
        Check.feed(x, 0x82, 1, 0x60);
        Check.due("a fault comes before the room", x.read(), 3);
        Check.looks("another place", x, 5, 998, 0, 3, 0, 3, 2, 199);
        Check.feed(x, 0x81, 1);
        Check.due("1000 nodes", x.read(), 0);
        Check.looks("no fault", x, 6, 1000, 0, 2, 2, 0, -1, 2);
        Check.feed(x, 1);
        Check.due("1001 nodes", x.read(), -1);
        Check.looks("it stays without one", x, 6, 1000, 0, 1, 0, 0, -1, 2);
        Check.feed(x, 0x98, 199);
        for (int n = 0; n < 25; n++) {
            x.give(0, 8);
        }
        Check.due("1200 nodes", x.read(), -1);
        x.cut(200);
        Check.due("an end on a full stack", x.read(), 1);
        Check.looks("its place", x, 6, 1000, 0, 200, 0, 1, 200, 2);
    }

    private static void faultChangesNothing() {
        Counted x = new Counted();
        x.bytes(0x0102, 2);
        x.integer(9);
        x.list(2);
        x.write();
        Check.feed(x, 0x83, 0x42, 7, 7, 0x81, 6, 0x1f);
        Check.due("a fault at the end", x.read(), 3);
        Check.looks("only the fault", x, 1, 3, 5, 7, 0, 3, 6, 5);
        Check.outputIs("the output stays", x, 0x82, 0x42, 1, 2, 9);
        x.bytes(0, 0);
        Check.yes("bytes where some were read", x.more(0x100, 2));
        Check.writtenIs("nothing of what was read is left", x, 0x42, 1, 0);
    }
}
