import java.util.ArrayList;
import java.util.List;

/**
 * Whether a call that is refused changes nothing. The same is asked of objects that came to a state,
 * and of objects that came to it and were then called in vain: every look, every byte of the output,
 * every node of every item with its value and bytes, and what each call does next. The input can only
 * be seen by reading: as far as it has no fault, and of a long one as far as the calls of one object
 * go. Each object answers no more than 512 calls, so there are as many of them as it takes.
 */
final class Still {
    interface Steps {
        void on(Counted x);
    }

    interface YesNo {
        boolean on(Counted x);
    }

    interface Answer {
        long on(Counted x);
    }

    /** What is asked; a last question changes the object, which is not asked again then. */
    private record Question(String name, boolean last, Answer answer) {
    }

    private static final long THROWN = 1L << 40;

    private final Steps before;
    private final Answer call;
    private final long due;
    private final String what;
    /** A read may change the fault and its place, and nothing else. */
    private final boolean askFault;

    private Still(String what, Steps before, Answer call, long due, boolean askFault) {
        this.what = what;
        this.before = before;
        this.call = call;
        this.due = due;
        this.askFault = askFault;
    }

    static void no(String what, Steps before, YesNo call) {
        new Still(what, before, x -> call.on(x) ? 1 : 0, 0, true).ask();
    }

    static void none(String what, Steps before, Answer call) {
        new Still(what, before, call, DataTree.NONE, true).ask();
    }

    /** The exception is one of those that Check has numbers for. */
    static void thrown(String what, Steps before, int exception, Answer call) {
        new Still(what, before, x -> answerOrThrown(x, call), THROWN + exception, true).ask();
    }

    static void fault(String what, Steps before, int fault, int place) {
        new Still(what, before, Counted::read, fault, false).ask();
        Counted x = new Counted();
        before.on(x);
        x.read();
        Check.due(what + ": look(5)", x.look(5), fault);
        Check.due(what + ": look(6)", x.look(6), place);
    }

    private static long answerOrThrown(Counted x, Answer call) {
        try {
            return call.on(x);
        } catch (RuntimeException e) {
            return THROWN + Check.sort(e);
        }
    }

    private void ask() {
        List<Question> questions = questions();
        List<Long> without = answers(questions, false);
        List<Long> with = answers(questions, true);
        for (int q = 0; q < questions.size(); q++) {
            Check.due(what + ", then " + questions.get(q).name, with.get(q), without.get(q));
        }
    }

    private Counted made(boolean called) {
        Counted x = new Counted();
        before.on(x);
        if (called) {
            Check.due(what, call.on(x), due);
        } else {
            // One call here, too, so that both have as many left.
            x.look(0);
        }
        return x;
    }

    private List<Long> answers(List<Question> questions, boolean called) {
        List<Long> answers = new ArrayList<>();
        Counted x = null;
        for (Question question : questions) {
            if (x == null || question.last || x.left() == 0) {
                x = made(called);
            }
            answers.add(answerOrThrown(x, question.answer));
            if (question.last) {
                x = null;
            }
        }
        return answers;
    }

    private List<Question> questions() {
        List<Question> all = new ArrayList<>();
        for (int which = 0; which < 8; which++) {
            int w = which;
            if (askFault || (w != 5 && w != 6)) {
                all.add(new Question("look(" + w + ")", false, x -> x.look(w)));
            }
        }
        Counted shape = made(false);
        int written = shape.look(2);
        for (int k = 0; k <= written; k++) {
            int at = k;
            all.add(new Question("output(" + k + ")", false, x -> x.output(at)));
        }
        int items = shape.look(0);
        for (int i = 0; i < items; i++) {
            addItem(all, i, shape.node(i, 0, 3));
        }
        addLast(all);
        return all;
    }

    private void addItem(List<Question> all, int i, int nodes) {
        Counted shape = made(false);
        for (int node = 0; node < nodes; node++) {
            int k = node;
            String name = "(" + i + ", " + k + ")";
            for (int of = 0; of < 6; of++) {
                int w = of;
                all.add(new Question("node" + name + " " + w, false, x -> x.node(i, k, w)));
            }
            all.add(new Question("value" + name, false, x -> x.value(i, k)));
            shape = shape.left() < 2 ? made(false) : shape;
            int bytes = shape.node(i, k, 0) == 2 ? shape.node(i, k, 1) : 0;
            for (int byteOf = 0; byteOf <= bytes; byteOf++) {
                int j = byteOf;
                all.add(new Question("byteAt" + name + " " + j, false, x -> x.byteAt(i, k, j)));
            }
        }
    }

    /** What each call does next, and what the input has, from AT on and from its begin on. */
    private void addLast(List<Question> all) {
        all.add(new Question("reading on", true, this::readOn));
        all.add(new Question("reading anew", true, x -> {
            x.cut(x.look(3));
            return readOn(x);
        }));
        YesNo[] next = {
            x -> x.integer(77), x -> x.bytes(-2, 8), x -> x.more(-3, 1), x -> x.list(0), x -> x.list(1),
            x -> x.list(2), x -> x.map(1), x -> x.constructor(9, 1), x -> x.copy(0), x -> x.drop(),
            x -> x.open() >= 0, x -> x.write() >= 0, x -> x.give(1, 1), x -> x.give(-5, 8), x -> x.cut(1),
            x -> turned(x),
        };
        for (int n = 0; n < next.length; n++) {
            YesNo one = next[n];
            all.add(new Question("what comes next, " + n, true, x -> mix(one.on(x) ? 1 : 0, looks(x))));
        }
    }

    private static boolean turned(Counted x) {
        x.turn();
        return true;
    }

    private static long mix(long sum, long answer) {
        return sum * 1000003 + answer;
    }

    private long looks(Counted x) {
        long sum = 0;
        for (int which = 0; which < 8; which++) {
            sum = mix(sum, !askFault && (which == 5 || which == 6) ? 0 : x.look(which));
        }
        return sum;
    }

    /** Reads, with an empty stack, as far as there is no fault and calls are left. */
    private long readOn(Counted x) {
        while (x.drop()) {
            continue;
        }
        long sum = 0;
        int answer = 0;
        while (answer == 0 && x.left() > 40) {
            answer = x.read();
            sum = mix(mix(sum, answer), looks(x));
            int nodes = answer == 0 ? Math.min(x.node(0, 0, 3), 6) : 0;
            for (int k = 0; k < nodes; k++) {
                int node = k;
                sum = mix(sum, x.node(0, k, 1));
                sum = mix(sum, answerOrThrown(x, y -> y.value(0, node)));
                sum = mix(sum, x.byteAt(0, k, 0));
            }
            x.drop();
        }
        return sum;
    }
}
