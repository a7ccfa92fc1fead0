/** READING: every input of one and of two bytes, and very many of three and four, against Model. */
public final class ShortInputTest {
    /** Last bytes at the edges: of heads, of numbers, and of their widths. */
    private static final int[] LAST = {0, 23, 24, 64, 65, 0x80, 0x81, 0xa0, 120, 121, 127, 128, 255};

    private Counted x = new Counted();
    private Model m = new Model();

    public static void main(String[] args) {
        ShortInputTest test = new ShortInputTest();
        for (int first = 0; first < 256; first++) {
            test.read(first, 1);
            for (int second = 0; second < 256; second++) {
                int two = 256 * first + second;
                test.read(two, 2);
                for (int last : LAST) {
                    test.read(256L * two + last, 3);
                }
                // What follows a constructor's head, and what is within a list, come later.
                test.read(0xd8790000L + two, 4);
                test.read(0x82050000L + two, 4);
            }
        }
        Check.end();
    }

    /** An object that has answered nearly all its calls makes way for a new one. */
    private void read(long bytes, int n) {
        if (x.left() < 12) {
            x = new Counted();
            m = new Model();
        }
        String what = Long.toHexString(bytes) + ": ";
        x.cut(0);
        m.cut(0);
        x.give(bytes, n);
        m.give(bytes, n);
        int want = m.read();
        Check.due(what + "read()", x.read(), want);
        Check.due(what + "AT", x.look(4), m.look(4));
        Check.due(what + "place", x.look(6), m.look(6));
        if (want == 0) {
            Check.due(what + "nodes", x.look(1), m.look(1));
            Check.due(what + "bytes", x.look(7), m.look(7));
            x.drop();
            m.drop();
        }
    }
}
