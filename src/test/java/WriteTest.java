/** Promises 11, 12, 15 and 21: the bytes of data, and the output. */
public final class WriteTest {
    public static void main(String[] args) {
        integers();
        bytesHeads();
        counts();
        constructorNumbers();
        behindOneAnother();
        noRoom();
        turn();
        output();
        Check.end();
    }

    private static void integers() {
        Counted x = new Counted();
        integer(x, 0, 0x00);
        integer(x, 23, 0x17);
        integer(x, 24, 0x18, 24);
        integer(x, 255, 0x18, 255);
        integer(x, 256, 0x19, 1, 0);
        integer(x, 65535, 0x19, 255, 255);
        integer(x, 65536, 0x1a, 0, 1, 0, 0);
        integer(x, 4294967295L, 0x1a, 255, 255, 255, 255);
        integer(x, 4294967296L, 0x1b, 0, 0, 0, 1, 0, 0, 0, 0);
        integer(x, Long.MAX_VALUE, 0x1b, 127, 255, 255, 255, 255, 255, 255, 255);
        integer(x, -1, 0x20);
        integer(x, -24, 0x37);
        integer(x, -25, 0x38, 24);
        integer(x, -256, 0x38, 255);
        integer(x, -257, 0x39, 1, 0);
        integer(x, -65536, 0x39, 255, 255);
        integer(x, -65537, 0x3a, 0, 1, 0, 0);
        integer(x, -4294967296L, 0x3a, 255, 255, 255, 255);
        integer(x, -4294967297L, 0x3b, 0, 0, 0, 1, 0, 0, 0, 0);
        integer(x, Long.MIN_VALUE, 0x3b, 127, 255, 255, 255, 255, 255, 255, 255);
    }

    private static void integer(Counted x, long v, int... want) {
        x.integer(v);
        Check.writtenIs("integer " + v, x, want);
        x.drop();
    }

    private static void bytesHeads() {
        Counted x = new Counted();
        x.bytes(0, 0);
        Check.writtenIs("no bytes", x, 0x40);
        x.more(-1, 8);
        x.more(-1, 8);
        x.more(0x01020304050607L, 7);
        Check.due("23 bytes", x.look(7), 24);
        x.clear();
        x.write();
        Check.due("head of 23", x.output(0), 0x57);
        Check.due("first of 23", x.output(1), 255);
        Check.due("last of 23", x.output(23), 7);
        x.more(8, 1);
        Check.due("24 bytes", x.look(7), 26);
        x.clear();
        x.write();
        Check.due("head of 24", x.output(0), 0x58);
        Check.due("number of 24", x.output(1), 24);
        Check.due("last of 24", x.output(25), 8);
    }

    private static void counts() {
        Counted x = new Counted();
        Check.listOf(x, 24);
        Check.due("a list of 23", x.look(7), 24);
        Check.listOf(x, 25);
        Check.due("a list of 24", x.look(7), 26);
        x.write();
        Check.due("its head", x.output(0), 0x98);
        Check.due("its number", x.output(1), 24);
        Check.feed(x, 0xb8, 24);
        for (int n = 0; n < 6; n++) {
            x.give(0, 8);
        }
        Check.due("read a map of 24", x.read(), 0);
        Check.due("its pairs", x.node(0, 0, 1), 24);
        Check.due("its nodes", x.node(0, 0, 3), 49);
        Check.due("a map of 24", x.look(7), 50);
        x.clear();
        x.write();
        Check.due("its head", x.output(0), 0xb8);
        Check.due("its number", x.output(1), 24);
    }

    private static void constructorNumbers() {
        for (int number = 0; number <= 127; number++) {
            Counted x = new Counted();
            x.constructor(number, 0);
            if (number < 7) {
                Check.writtenIs("constructor " + number, x, 0xd8, 121 + number, 0x80);
            } else {
                int n = 1273 + number;
                Check.writtenIs("constructor " + number, x, 0xd9, n / 256, n % 256, 0x80);
            }
        }
        Counted x = new Counted();
        Check.feed(x, 0xd8, 0x79, 0x98, 24);
        x.give(0, 8);
        x.give(0, 8);
        x.give(0, 8);
        Check.due("read a constructor of 24", x.read(), 0);
        Check.due("a constructor of 24", x.look(7), 28);
    }

    private static void behindOneAnother() {
        Counted x = new Counted();
        Check.due("write without a top", x.write(), -1);
        x.integer(1);
        Check.due("write", x.write(), 1);
        x.bytes(0x0a0b, 2);
        Check.due("write behind it", x.write(), 4);
        Check.due("the same once more", x.write(), 7);
        Check.outputIs("three", x, 1, 0x42, 10, 11, 0x42, 10, 11);
        Check.looks("the stack stays", x, 2, 2, 7, 0, 0, 0, -1, 3);
        x.clear();
        Check.outputIs("cleared", x);
        Check.looks("the stack stays, cleared", x, 2, 2, 0, 0, 0, 0, -1, 3);
        x.drop();
        Check.due("write once more", x.write(), 1);
        Check.outputIs("one", x, 1);
        x.drop();
        Check.due("no top any more", x.write(), -1);
        Check.outputIs("one stays", x, 1);
    }

    private static void noRoom() {
        Counted x = new Counted();
        x.bytes(-1, 8);
        for (int n = 1; n < 8; n++) {
            x.more(-1, 8);
        }
        for (int n = 1; n <= 62; n++) {
            Check.due("write 66 bytes", x.write(), 66 * n);
        }
        Check.due("4158 bytes", x.write(), -1);
        Check.due("4092 bytes stay", x.look(2), 4092);
        x.bytes(0x010203, 3);
        x.more(4, 1);
        Check.due("4097 bytes", x.write(), -1);
        x.drop();
        x.bytes(0x010203, 3);
        Check.due("4096 bytes", x.write(), 4096);
        Check.due("byte 4095", x.output(4095), 3);
        Check.due("byte 4096", x.output(4096), -1);
        x.integer(0);
        Check.due("no room for one", x.write(), -1);
        Check.due("4096 bytes stay", x.look(2), 4096);
        x.turn();
        Check.due("4096 bytes of input", x.look(3), 4096);
        Check.no("no room to give one", x.give(1, 1));
        dataAboveTheOutput();
    }

    /** Data may have more bytes than the output can have. */
    private static void dataAboveTheOutput() {
        Counted x = new Counted();
        x.bytes(5, 8);
        for (int n = 1; n < 8; n++) {
            x.more(n, 8);
        }
        for (int n = 1; n < 9; n++) {
            x.copy(0);
        }
        x.list(9);
        for (int n = 1; n < 9; n++) {
            x.copy(0);
        }
        x.list(9);
        Check.due("81 times 66 and 10", x.look(7), 81 * 66 + 10);
        Check.due("no room for it", x.write(), -1);
        Check.due("no byte came", x.look(2), 0);
        x.copy(0);
        Check.due("compared all the same", x.compare(0, 1), 0);
        x.list(2);
        Check.due("183 nodes", x.node(0, 0, 3), 183);
        Check.due("their bytes", x.look(7), 2 * (81 * 66 + 10) + 1);
        Check.due("byte 63 of the last node", x.byteAt(0, 182, 63), 7);
    }

    private static void turn() {
        Counted x = new Counted();
        x.give(0x0102, 2);
        Check.due("read 1", x.read(), 0);
        Check.looks("one read", x, 1, 1, 0, 2, 1, 0, -1, 1);
        x.integer(300);
        x.write();
        x.turn();
        Check.looks("turned", x, 2, 2, 3, 3, 0, 0, -1, 3);
        Check.outputIs("the output stays", x, 0x19, 1, 44);
        x.clear();
        Check.due("the input stays when the output is cleared", x.look(3), 3);
        Check.due("read 300", x.read(), 0);
        Check.due("300", x.value(0, 0), 300);
        x.turn();
        Check.looks("an empty output turned", x, 3, 3, 0, 0, 0, 0, -1, 3);
        x.give(5, 1);
        Check.due("the output stays when bytes are given", x.look(2), 0);
    }

    private static void output() {
        Counted x = new Counted();
        x.bytes(0xff8000, 3);
        x.write();
        Check.due("output(-1)", x.output(-1), -1);
        Check.due("output(lowest)", x.output(Integer.MIN_VALUE), -1);
        Check.due("output(highest)", x.output(Integer.MAX_VALUE), -1);
        Check.due("output(0)", x.output(0), 0x43);
        Check.due("output(1)", x.output(1), 255);
        Check.due("output(2)", x.output(2), 128);
        Check.due("output(3)", x.output(3), 0);
        Check.due("output(4)", x.output(4), -1);
        x.clear();
        Check.due("output(0), cleared", x.output(0), -1);
    }
}
