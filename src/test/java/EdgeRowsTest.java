/**
 * Promises 11 to 15 and 21 at their edges: heads, the output and the input, from empty to full; and
 * that a call which is refused changes nothing.
 */
public final class EdgeRowsTest {
    public static void main(String[] args) {
        headsOfIntegers();
        headsOfBytes();
        headsOfCounts();
        headsOfConstructors();
        writeNeedsATop();
        writeIsBehind();
        writeRoom();
        writeRoomForAll();
        clear();
        giveCounts();
        giveTakesTheLowest();
        giveRoom();
        giveKeepsAt();
        cutCounts();
        cutToTheFirst();
        cutSetsAt();
        turnEmptyAndFull();
        turnSetsAt();
        turnLeavesTheOutput();
        rowsAreTwo();
        outputIndices();
        lastCall();
        Check.end();
    }

    private static void written(String what, Still.Steps before, int... want) {
        Counted x = new Counted();
        before.on(x);
        Check.writtenIs(what, x, want);
    }

    /** "the number, if that is below 24; else [..] below 2^8, 2^16, 2^32, 2^64"; kinds 0 and 1. */
    private static void headsOfIntegers() {
        bothSigns(0, 0);
        bothSigns(23, 23);
        bothSigns(24, 24, 24);
        bothSigns(255, 24, 255);
        bothSigns(256, 25, 1, 0);
        bothSigns(65535, 25, 255, 255);
        bothSigns(65536, 26, 0, 1, 0, 0);
        bothSigns(0x7fffffffL, 26, 127, 255, 255, 255);
        bothSigns(0x80000000L, 26, 128, 0, 0, 0);
        bothSigns(0xffffffffL, 26, 255, 255, 255, 255);
        bothSigns(0x100000000L, 27, 0, 0, 0, 1, 0, 0, 0, 0);
        bothSigns(Long.MAX_VALUE, 27, 127, 255, 255, 255, 255, 255, 255, 255);
    }

    /** v has this head, of kind 0; and -1 - v has it, of kind 1. */
    private static void bothSigns(long v, int... head) {
        written("integer " + v, x -> x.integer(v), head);
        head[0] += 32;
        written("integer " + (-1 - v), x -> x.integer(-1 - v), head);
    }

    /** "BYTES: a HEAD of kind 2 and how many, and they": 0, 23 and 24, 64. */
    private static void headsOfBytes() {
        for (int n : new int[] {0, 1, 22, 23, 24, 25, 63, 64}) {
            Counted x = new Counted();
            States.text(x, n);
            int head = n < 24 ? 1 : 2;
            Check.due(n + " bytes written", x.look(7), head + n);
            Check.due("write()", x.write(), head + n);
            Check.due("the head of " + n, x.output(0), n < 24 ? 0x40 + n : 0x58);
            Check.due("behind it", x.output(1), n >= 24 ? n : x.byteAt(0, 0, 0));
            for (int j = 0; j < n; j++) {
                Check.due("byte " + j + " of " + n, x.output(head + j), x.byteAt(0, 0, j));
            }
            Check.due("behind them", x.output(head + n), -1);
        }
    }

    /** "A LIST: a HEAD of kind 4 and how many", "A MAP: [..] kind 5 and how many pairs": 0, 23 and 24. */
    private static void headsOfCounts() {
        written("an empty list", x -> x.list(0), 0x80);
        written("an empty map", x -> x.map(0), 0xa0);
        for (int n : new int[] {23, 24, 99, 199}) {
            headOfMany(0x80, n, n);
        }
        for (int n : new int[] {23, 24, 99}) {
            headOfMany(0xa0, n, 2 * n);
        }
        Counted x = new Counted();
        x.give(0xd8799817L, 4);
        Check.due("fields of 23 in a byte of their own", x.read(), 2);
        x.cut(0);
        x.give(0xd8799818L, 4);
        giveZeros(x, 24);
        Check.due("24 fields", x.read(), 0);
        Check.due("its bytes", x.look(7), 28);
    }

    private static void headOfMany(int kind, int n, int inner) {
        Counted x = new Counted();
        if (n < 24) {
            x.give(kind + n, 1);
        } else {
            x.give(256 * (kind + 24) + n, 2);
        }
        int head = x.look(3);
        giveZeros(x, inner);
        Check.due("read " + n, x.read(), 0);
        Check.due("how many", x.node(0, 0, 1), n);
        Check.due("written", x.look(7), head + inner);
        Check.due("write()", x.write(), head + inner);
        Check.due("its head", x.output(0), n < 24 ? kind + n : kind + 24);
        Check.due("behind that", x.output(1), n < 24 ? 0 : n);
        Check.due("the first within", x.output(head), 0);
        Check.due("the last within", x.output(head + inner - 1), 0);
        Check.due("behind it", x.output(head + inner), -1);
    }

    private static void giveZeros(Counted x, int n) {
        for (int left = n; left > 0; left -= 8) {
            x.give(0, Math.min(left, 8));
        }
    }

    /** "121 + n, if n is below 7, else 1273 + n; then as for a LIST of its fields." */
    private static void headsOfConstructors() {
        written("constructor 0", x -> x.constructor(0, 0), 0xd8, 121, 0x80);
        written("constructor 6", x -> x.constructor(6, 0), 0xd8, 127, 0x80);
        written("constructor 7", x -> x.constructor(7, 0), 0xd9, 5, 0, 0x80);
        written("constructor 8", x -> x.constructor(8, 0), 0xd9, 5, 1, 0x80);
        written("constructor 127", x -> x.constructor(127, 0), 0xd9, 5, 120, 0x80);
        written("constructor 6 of two", x -> {
            x.integer(1);
            x.list(0);
            x.constructor(6, 2);
        }, 0xd8, 127, 0x82, 1, 0x80);
    }

    /** write: "NONE if there is no TOP". */
    private static void writeNeedsATop() {
        Still.none("write without a top", States::nothing, x -> x.write());
        Still.none("write without a top, with rows", States::rows, x -> x.write());
        Still.none("write with the top gone", x -> {
            States.two(x);
            x.drop();
            x.drop();
        }, x -> x.write());
        Counted x = new Counted();
        States.rows(x);
        x.integer(0);
        Check.due("write with a top", x.write(), 4);
    }

    /** "behind those it has: how many it has then"; the top itself stays. */
    private static void writeIsBehind() {
        Counted x = new Counted();
        States.two(x);
        Check.due("write", x.write(), 9);
        Check.due("write again", x.write(), 15);
        Check.outputIs("three", x, 0x42, 0xab, 0xcd,
            0x82, 0x43, 0xf1, 0xf2, 0xf3, 4, 0x82, 0x43, 0xf1, 0xf2, 0xf3, 4);
        Check.looks("all else stays", x, 2, 4, 15, 5, 3, 3, 3, 6);
    }

    /** "THE OUTPUT has up to 4096 bytes"; write: "or no room for all." */
    private static void writeRoom() {
        for (int n : new int[] {1, 2, 24, 26, 66}) {
            int bytes = n == 1 ? 0 : n < 25 ? n - 1 : n - 2;
            Counted x = new Counted();
            States.outputOf(x, 4096 - n);
            States.text(x, bytes);
            Check.due(n + " bytes to 4096", x.write(), 4096);
            Check.due("the last of them", x.output(4095), n == 1 ? 0x40 : x.byteAt(0, 0, bytes - 1));
            Check.due("byte 4096", x.output(4096), -1);
            Still.none(n + " bytes to 4097", y -> {
                States.outputOf(y, 4097 - n);
                States.text(y, bytes);
            }, y -> y.write());
            Still.none(n + " bytes on 4096", y -> {
                States.outputOf(y, 4096);
                States.text(y, bytes);
            }, y -> y.write());
        }
    }

    /** No byte of data comes if not all have room, however many nodes would have; 4096 may. */
    private static void writeRoomForAll() {
        Still.Steps dear = x -> {
            States.text(x, 64);
            for (int n = 1; n < 15; n++) {
                x.copy(0);
            }
            x.list(15);
        };
        Still.Steps more = x -> {
            dear.on(x);
            x.copy(0);
            x.copy(0);
            x.copy(0);
            x.list(4);
        };
        Counted x = new Counted();
        more.on(x);
        Check.due("bytes of 60 times 64", x.look(7), 60 * 66 + 4 + 1);
        Check.due("write 3965", x.write(), 3965);
        Still.none("write 4956", y -> {
            more.on(y);
            y.open();
            y.copy(0);
            y.list(5);
            Check.due("bytes of 75 times 64", y.look(7), 75 * 66 + 5 + 1);
        }, y -> y.write());
        to4096(more);
    }

    /** 3965 bytes, and 131 in the same list make 4096. */
    private static void to4096(Still.Steps more) {
        for (int over = 0; over < 2; over++) {
            int last = 63 + over;
            Still.Steps before = y -> {
                more.on(y);
                States.text(y, 64);
                States.text(y, last - 1);
                y.list(3);
            };
            Counted y = new Counted();
            before.on(y);
            Check.due("bytes", y.look(7), 4096 + over);
            if (over == 0) {
                Check.due("write 4096", y.write(), 4096);
                Check.due("byte 4095", y.output(4095), y.byteAt(0, y.node(0, 0, 3) - 1, last - 2));
                y.turn();
                Check.due("read 4096", y.read(), 0);
                Check.due("AT", y.look(4), 4096);
                Check.due("the same", y.compare(0, 1), 0);
            } else {
                Still.none("write 4097", before, z -> z.write());
            }
        }
    }

    /** "The OUTPUT is empty": whether it had none, some or 4096; and there is room again. */
    private static void clear() {
        Counted x = new Counted();
        x.clear();
        Check.outputIs("clear of none", x);
        States.two(x);
        x.clear();
        Check.outputIs("clear of some", x);
        Check.looks("all else stays", x, 2, 4, 0, 5, 3, 3, 3, 6);
        x = new Counted();
        States.outputOf(x, 4096);
        x.clear();
        Check.outputIs("clear of 4096", x);
        x.integer(7);
        Check.due("write from the begin on", x.write(), 1);
        Check.outputIs("that alone", x, 7);
    }

    /** give: "n bytes of v, 1 .. 8 [..] false if n is not as said". */
    private static void giveCounts() {
        for (int n = 1; n <= 8; n++) {
            Counted x = new Counted();
            States.two(x);
            Check.yes("give " + n, x.give(-1, n));
            Check.looks("give " + n, x, 2, 4, 3, 5 + n, 3, 3, 3, 6);
        }
        Still.no("give 0", States::two, x -> x.give(-1, 0));
        Still.no("give 9", States::two, x -> x.give(-1, 9));
        Still.no("give -1", States::two, x -> x.give(-1, -1));
        for (int n : States.FAR_OFF) {
            Still.no("give " + n, States::two, x -> x.give(-1, n));
        }
    }

    /** "the highest first (of its lowest n)". */
    private static void giveTakesTheLowest() {
        for (int n = 1; n <= 8; n++) {
            Counted x = new Counted();
            x.give(0x40 + n, 1);
            x.give(0x91929394959697a8L, n);
            x.give(0x05, 1);
            Check.due("read " + n + " bytes", x.read(), 0);
            for (int j = 0; j < n; j++) {
                Check.due("byte " + j + " of " + n, x.byteAt(0, 0, j), j == n - 1 ? 0xa8 : 0x99 - n + j);
            }
            Check.due("read what is behind", x.read(), 0);
            Check.due("it", x.value(0, 0), 5);
        }
    }

    /** "THE INPUT has up to 4096 bytes"; give: "or there is no room." */
    private static void giveRoom() {
        for (int n = 1; n <= 8; n++) {
            int more = n;
            Counted x = new Counted();
            States.inputOf(x, 4096 - n);
            Check.yes("give " + n + " to 4096", x.give(5, n));
            Check.due("4096 bytes", x.look(3), 4096);
            Still.no("give " + n + " to 4097", y -> States.inputOf(y, 4097 - more), y -> y.give(5, more));
            Still.no("give " + n + " on 4096", y -> States.inputOf(y, 4096), y -> y.give(5, more));
        }
        Still.no("give 9 with room", y -> States.inputOf(y, 4087), y -> y.give(5, 9));
        Counted x = new Counted();
        States.inputOf(x, 4096);
        x.cut(4095);
        Check.yes("room again for one", x.give(5, 1));
        Check.no("and for no more", x.give(5, 1));
    }

    /** Bytes that are given come behind those that are there, and AT stays. */
    private static void giveKeepsAt() {
        Counted x = new Counted();
        x.give(0x0102, 2);
        x.read();
        x.read();
        Check.due("NONE at the end", x.read(), -1);
        x.give(3, 1);
        Check.looks("AT stays", x, 2, 2, 0, 3, 2, 0, -1, 1);
        Check.due("there is one more", x.read(), 0);
        Check.due("it", x.value(0, 0), 3);
    }

    /** cut: "true; false if it has fewer, or n is below 0." */
    private static void cutCounts() {
        for (int n = 0; n <= 5; n++) {
            Counted x = new Counted();
            States.two(x);
            Check.yes("cut(" + n + ") of 5", x.cut(n));
            Check.looks("cut(" + n + ")", x, 2, 4, 3, n, 0, 3, 3, 6);
        }
        Still.no("cut(6) of 5", States::two, x -> x.cut(6));
        Still.no("cut(-1) of 5", States::two, x -> x.cut(-1));
        Still.no("cut(-5) of 5", States::two, x -> x.cut(-5));
        Still.no("cut(4097) of 4096", x -> States.inputOf(x, 4096), x -> x.cut(4097));
        Still.no("cut(4096) of 4095", x -> States.inputOf(x, 4095), x -> x.cut(4096));
        Still.no("cut(1) of none", States::nothing, x -> x.cut(1));
        for (int n : States.FAR_OFF) {
            Still.no("cut(" + n + ") of 5", States::two, x -> x.cut(n));
        }
        Counted x = new Counted();
        Check.yes("cut(0) of none", x.cut(0));
        States.inputOf(x, 4096);
        Check.yes("cut(4096) of 4096", x.cut(4096));
        Check.due("4096 bytes", x.look(3), 4096);
    }

    /** "The INPUT has its first n bytes alone": what was behind them does not come back. */
    private static void cutToTheFirst() {
        Counted x = new Counted();
        x.give(0x43a1a2a3L, 4);
        x.cut(3);
        Check.due("one is missing", x.read(), 1);
        Check.due("behind the third", x.look(6), 3);
        x.cut(2);
        x.give(0xb2b3, 2);
        Check.due("read", x.read(), 0);
        Check.writtenIs("the first two and the new ones", x, 0x43, 0xa1, 0xb2, 0xb3);
    }

    /** "and AT is 0", also if n is all there are, or AT was behind n. */
    private static void cutSetsAt() {
        for (int n = 1; n <= 3; n++) {
            Counted x = new Counted();
            x.give(0x010203, 3);
            x.read();
            x.read();
            x.cut(n);
            Check.due("AT, cut(" + n + ")", x.look(4), 0);
            for (int v = 1; v <= n; v++) {
                Check.due("read", x.read(), 0);
                Check.due("value", x.value(0, 0), v);
            }
            Check.due("the end", x.read(), -1);
        }
    }

    /** "The OUTPUT is the INPUT, too": when it has none, and when it has 4096. */
    private static void turnEmptyAndFull() {
        Counted x = new Counted();
        States.rows(x);
        x.clear();
        x.turn();
        Check.looks("an empty output", x, 0, 0, 0, 0, 0, 3, 3, -1);
        Check.due("read of none", x.read(), -1);
        x = new Counted();
        States.rows(x);
        x.clear();
        States.outputOf(x, 4096);
        x.turn();
        Check.looks("a full output", x, 0, 0, 4096, 4096, 0, 3, 3, -1);
        int reads = 0;
        while (x.read() == 0) {
            x.drop();
            reads++;
        }
        Check.due("all that was written is read", reads, 63);
        Check.looks("to its end", x, 0, 0, 4096, 4096, 4096, 0, -1, -1);
    }

    /** "and AT is 0"; the fault is not spoken of, and stays. */
    private static void turnSetsAt() {
        Counted x = new Counted();
        States.two(x);
        x.turn();
        Check.looks("turned", x, 2, 4, 3, 3, 0, 3, 3, 6);
        Check.due("read", x.read(), 0);
        Check.due("a byte of it", x.byteAt(0, 0, 1), 0xcd);
        x.turn();
        Check.looks("turned again", x, 3, 5, 3, 3, 0, 0, -1, 3);
        Check.due("read again", x.read(), 0);
        Check.due("the same", x.compare(0, 1), 0);
    }

    private static void turnLeavesTheOutput() {
        Counted x = new Counted();
        States.two(x);
        x.turn();
        Check.outputIs("the output stays", x, 0x42, 0xab, 0xcd);
        Check.due("and gets more", x.write(), 9);
        Check.due("the input does not", x.look(3), 3);
    }

    /** After turn() what changes the one row leaves the other one as it is. */
    private static void rowsAreTwo() {
        Counted x = new Counted();
        States.rows(x);
        x.turn();
        x.cut(1);
        x.give(0x0102, 2);
        Check.outputIs("the output stays", x, 0x42, 0xab, 0xcd);
        x.clear();
        x.integer(9);
        x.write();
        Check.due("read what was given", x.read(), 0);
        Check.due("its first byte", x.byteAt(0, 0, 0), 1);
        Check.due("its second byte", x.byteAt(0, 0, 1), 2);
        Check.outputIs("what was written", x, 9);
    }

    /** "Byte k of the OUTPUT; NONE if there is none." */
    private static void outputIndices() {
        Counted x = new Counted();
        States.two(x);
        Check.due("output(-1)", x.output(-1), -1);
        Check.due("output(0)", x.output(0), 0x42);
        Check.due("output(2)", x.output(2), 0xcd);
        Check.due("output(3)", x.output(3), -1);
        Check.due("output(4)", x.output(4), -1);
        for (int k : States.FAR_OFF) {
            Still.none("output(" + k + ")", States::two, y -> y.output(k));
        }
        x.clear();
        Check.due("output(0) of none", x.output(0), -1);
        x = new Counted();
        States.outputOf(x, 4096);
        Check.due("output(4095) of 4096", x.output(4095), 0x18);
        Check.due("output(4096) of 4096", x.output(4096), -1);
        Still.none("output(3) of 3", States::two, y -> y.output(3));
        Still.none("output(-1) of 3", States::two, y -> y.output(-1));
    }

    /** 512 calls of 8 bytes fill the input to its last byte. */
    private static void lastCall() {
        Counted x = new Counted();
        boolean all = true;
        for (int n = 0; n < 512; n++) {
            all &= x.give(n, 8);
        }
        Check.yes("512 times 8 bytes", all);
    }
}
