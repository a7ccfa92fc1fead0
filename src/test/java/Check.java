/** Counts answers that are not as due, and the ways to say what is due that the tests share. */
final class Check {
    static final int INDEX = 1;
    static final int ARGUMENT = 2;

    private static int asked = 0;
    private static int wrong = 0;

    private Check() {
    }

    static void due(String what, long got, long want) {
        asked++;
        if (got != want) {
            wrong++;
            System.out.println(what + " answered " + got + ", due is " + want);
        }
    }

    static void due(String what, boolean got, boolean want) {
        due(what, got ? 1 : 0, want ? 1 : 0);
    }

    static void yes(String what, boolean got) {
        due(what, got, true);
    }

    static void no(String what, boolean got) {
        due(what, got, false);
    }

    /** look(0) to look(7). */
    static void looks(String what, Counted x, int... want) {
        for (int which = 0; which < want.length; which++) {
            due(what + ": look(" + which + ")", x.look(which), want[which]);
        }
    }

    /** node(i, k, 0) to node(i, k, 5). */
    static void nodes(String what, Counted x, int i, int k, int... want) {
        for (int w = 0; w < want.length; w++) {
            due(what + ": node(" + i + ", " + k + ", " + w + ")", x.node(i, k, w), want[w]);
        }
    }

    static void outputIs(String what, Counted x, int... want) {
        due(what + ": bytes of the output", x.look(2), want.length);
        for (int k = 0; k < want.length; k++) {
            due(what + ": output(" + k + ")", x.output(k), want[k]);
        }
        due(what + ": output behind its end", x.output(want.length), DataTree.NONE);
    }

    /** Writes the top alone, and asks for its bytes and their number. */
    static void writtenIs(String what, Counted x, int... want) {
        x.clear();
        due(what + ": look(7)", x.look(7), want.length);
        due(what + ": write()", x.write(), want.length);
        outputIs(what, x, want);
    }

    static void give(Counted x, int... bytes) {
        for (int b : bytes) {
            yes("give", x.give(b, 1));
        }
    }

    /** The input is these bytes alone. */
    static void feed(Counted x, int... bytes) {
        yes("cut(0)", x.cut(0));
        give(x, bytes);
    }

    /** A list of zeros that has so many nodes in all comes to the stack; the input is empty then. */
    static void listOf(Counted x, int nodes) {
        int n = nodes - 1;
        if (n < 24) {
            feed(x, 0x80 + n);
        } else {
            feed(x, 0x98, n);
        }
        for (int left = n; left > 0; left -= 8) {
            yes("give zeros", x.give(0, Math.min(left, 8)));
        }
        due("read a list of " + n, x.read(), 0);
        due("its nodes", x.node(0, 0, 3), nodes);
        yes("cut(0)", x.cut(0));
    }

    static int thrownByNode(Counted x, int i, int k, int w) {
        try {
            x.node(i, k, w);
            return 0;
        } catch (RuntimeException e) {
            return sort(e);
        }
    }

    static int thrownByValue(Counted x, int i, int k) {
        try {
            x.value(i, k);
            return 0;
        } catch (RuntimeException e) {
            return sort(e);
        }
    }

    static int thrownByCompare(Counted x, int a, int b) {
        try {
            x.compare(a, b);
            return 0;
        } catch (RuntimeException e) {
            return sort(e);
        }
    }

    /** The class itself is asked for: one below it would be the machine's own. */
    static int sort(RuntimeException e) {
        if (e.getClass() == IndexOutOfBoundsException.class) {
            return INDEX;
        }
        return e.getClass() == IllegalArgumentException.class ? ARGUMENT : -1;
    }

    static void end() {
        System.out.println(asked + " answers, " + wrong + " not as due");
        if (wrong != 0 || asked == 0) {
            System.exit(1);
        }
    }
}
