import java.math.BigInteger;
import java.util.ArrayList;
import java.util.Arrays;
import java.util.List;

/** The document once more, by other means: trees of objects that are counted anew at every call. */
final class Model {
    /** Nothing of a node is changed once it is made, so nodes are shared. */
    static final class Node {
        final int kind;
        final long number;
        final int[] text;
        final List<Node> inner;

        Node(int kind, long number, int[] text, List<Node> inner) {
            this.kind = kind;
            this.number = number;
            this.text = text;
            this.inner = List.copyOf(inner);
        }

        int depth() {
            int deepest = 0;
            for (Node n : inner) {
                deepest = Math.max(deepest, n.depth());
            }
            return deepest + 1;
        }

        /** This one and all within it, in their order. */
        List<Node> all() {
            List<Node> all = new ArrayList<>();
            all.add(this);
            for (Node n : inner) {
                all.addAll(n.all());
            }
            return all;
        }

        /** For each of all(), the number of the one it is in. */
        List<Integer> around() {
            List<Integer> around = new ArrayList<>();
            around.add(-1);
            for (Node n : inner) {
                int base = around.size();
                for (int a : n.around()) {
                    around.add(a < 0 ? 0 : base + a);
                }
            }
            return around;
        }

        int count() {
            return kind == 0 ? -1 : kind == 2 ? text.length : kind == 5 ? inner.size() / 2 : inner.size();
        }

        List<Integer> written() {
            List<Integer> to = new ArrayList<>();
            BigInteger v = BigInteger.valueOf(number);
            if (kind == 0) {
                boolean below = number < 0;
                head(to, below ? 1 : 0, below ? BigInteger.ONE.negate().subtract(v) : v);
            } else if (kind == 6) {
                head(to, 6, BigInteger.valueOf(number < 7 ? 121 + number : 1273 + number));
                head(to, 4, BigInteger.valueOf(inner.size()));
            } else {
                head(to, kind, BigInteger.valueOf(count()));
            }
            for (int b : text) {
                to.add(b);
            }
            for (Node n : inner) {
                to.addAll(n.written());
            }
            return to;
        }
    }

    private static final class Fault extends RuntimeException {
        private static final long serialVersionUID = 1;
        final int which;
        final int where;

        Fault(int which, int where) {
            this.which = which;
            this.where = where;
        }
    }

    final List<Node> stack = new ArrayList<>();
    List<Integer> in = new ArrayList<>();
    List<Integer> out = new ArrayList<>();
    int at = 0;
    int fault = 0;
    int place = -1;

    private int pos;
    private int seen;

    private static int fewest(BigInteger n) {
        if (n.compareTo(BigInteger.valueOf(24)) < 0) {
            return 0;
        }
        for (int bytes = 1; bytes < 8; bytes *= 2) {
            if (n.bitLength() <= 8 * bytes) {
                return bytes;
            }
        }
        return 8;
    }

    static void head(List<Integer> to, int kind, BigInteger n) {
        int bytes = fewest(n);
        int sign = List.of(0, 1, 2, 4, 8).indexOf(bytes);
        to.add(32 * kind + (bytes == 0 ? n.intValueExact() : 23 + sign));
        for (int j = bytes - 1; j >= 0; j--) {
            to.add(n.shiftRight(8 * j).intValue() & 255);
        }
    }

    private static int[] lowest(long part, int n) {
        int[] all = new int[n];
        for (int j = 0; j < n; j++) {
            all[n - 1 - j] = (int) (part & 255);
            part >>= 8;
        }
        return all;
    }

    private int total() {
        int n = 0;
        for (Node d : stack) {
            n += d.all().size();
        }
        return n;
    }

    private Node item(int i) {
        return i < 0 || i >= stack.size() ? null : stack.get(stack.size() - 1 - i);
    }

    private Node find(int i, int k) {
        Node d = item(i);
        return d == null || k < 0 || k >= d.all().size() ? null : d.all().get(k);
    }

    private boolean push(Node d) {
        if (stack.size() + 1 > 16 || total() + d.all().size() > 1000) {
            return false;
        }
        return stack.add(d);
    }

    private boolean enclose(int kind, long number, long n) {
        if (n < 0 || n > stack.size()) {
            return false;
        }
        List<Node> last = stack.subList(stack.size() - (int) n, stack.size());
        Node d = new Node(kind, number, new int[0], last);
        if (d.all().size() > 200 || d.depth() > 12) {
            return false;
        }
        if (stack.size() - n + 1 > 16 || total() + 1 > 1000) {
            return false;
        }
        last.clear();
        return stack.add(d);
    }

    boolean integer(long v) {
        return push(new Node(0, v, new int[0], List.of()));
    }

    boolean bytes(long part, int n) {
        return n >= 0 && n <= 8 && push(new Node(2, 0, lowest(part, n), List.of()));
    }

    boolean more(long part, int n) {
        Node d = item(0);
        if (d == null || d.kind != 2 || n < 1 || n > 8 || d.text.length + n > 64) {
            return false;
        }
        int[] text = Arrays.copyOf(d.text, d.text.length + n);
        System.arraycopy(lowest(part, n), 0, text, d.text.length, n);
        stack.set(stack.size() - 1, new Node(2, 0, text, List.of()));
        return true;
    }

    boolean list(int n) {
        return enclose(4, 0, n);
    }

    boolean map(int n) {
        return enclose(5, 0, 2L * n);
    }

    boolean constructor(int number, int n) {
        return number >= 0 && number <= 127 && enclose(6, number, n);
    }

    boolean copy(int i) {
        return item(i) != null && push(item(i));
    }

    boolean drop() {
        return !stack.isEmpty() && stack.remove(stack.size() - 1) != null;
    }

    int open() {
        Node d = item(0);
        if (d == null || d.kind < 4 || stack.size() - 1 + d.inner.size() > 16) {
            return -1;
        }
        drop();
        stack.addAll(d.inner);
        return d.inner.size();
    }

    int write() {
        if (stack.isEmpty() || out.size() + item(0).written().size() > 4096) {
            return -1;
        }
        out.addAll(item(0).written());
        return out.size();
    }

    void clear() {
        out.clear();
    }

    boolean give(long v, int n) {
        if (n < 1 || n > 8 || in.size() + n > 4096) {
            return false;
        }
        for (int b : lowest(v, n)) {
            in.add(b);
        }
        return true;
    }

    boolean cut(int n) {
        if (n < 0 || n > in.size()) {
            return false;
        }
        in = new ArrayList<>(in.subList(0, n));
        at = 0;
        return true;
    }

    void turn() {
        in = new ArrayList<>(out);
        at = 0;
    }

    int read() {
        if (at == in.size() || stack.size() == 16) {
            return -1;
        }
        pos = at;
        seen = 0;
        Node d;
        try {
            d = data(1);
        } catch (Fault f) {
            fault = f.which;
            place = f.where;
            return fault;
        }
        if (!push(d)) {
            return -1;
        }
        at = pos;
        fault = 0;
        place = -1;
        return 0;
    }

    private int next() {
        if (pos == in.size()) {
            throw new Fault(1, pos);
        }
        return in.get(pos++);
    }

    private BigInteger number(int first, int where) {
        if (first % 32 < 24) {
            return BigInteger.valueOf(first % 32);
        }
        int bytes = List.of(1, 2, 4, 8).get(first % 32 - 24);
        BigInteger n = BigInteger.ZERO;
        for (int j = 0; j < bytes; j++) {
            n = n.multiply(BigInteger.valueOf(256)).add(BigInteger.valueOf(next()));
        }
        if (fewest(n) < bytes) {
            throw new Fault(2, where);
        }
        return n;
    }

    private static boolean between(BigInteger n, long low, long high) {
        return n.compareTo(BigInteger.valueOf(low)) >= 0 && n.compareTo(BigInteger.valueOf(high)) <= 0;
    }

    private static boolean fits(int kind, BigInteger n) {
        if (kind <= 1) {
            return n.bitLength() <= 63;
        }
        if (kind == 2) {
            return between(n, 0, 64);
        }
        return kind != 6 || between(n, 121, 127) || between(n, 1280, 1400);
    }

    private Node data(int level) {
        int where = pos;
        int first = next();
        int kind = first / 32;
        if (first % 32 >= 28 || kind == 3 || kind == 7) {
            throw new Fault(3, where);
        }
        BigInteger n = number(first, where);
        if (!fits(kind, n)) {
            throw new Fault(3, where);
        }
        if (level > 12) {
            throw new Fault(4, where);
        }
        seen++;
        if (seen > 200) {
            throw new Fault(5, where);
        }
        if (kind <= 1) {
            long v = n.longValueExact();
            return new Node(0, kind == 0 ? v : -1 - v, new int[0], List.of());
        }
        if (kind == 2) {
            int[] text = new int[n.intValueExact()];
            for (int j = 0; j < text.length; j++) {
                text[j] = next();
            }
            return new Node(2, 0, text, List.of());
        }
        long constructor = 0;
        if (kind == 6) {
            constructor = n.longValueExact() < 128 ? n.longValueExact() - 121 : n.longValueExact() - 1273;
            n = fieldsHead();
        }
        return new Node(kind, constructor, new int[0], inner(kind == 5 ? n.add(n) : n, level));
    }

    private BigInteger fieldsHead() {
        int where = pos;
        int first = next();
        if (first / 32 != 4 || first % 32 >= 28) {
            throw new Fault(3, where);
        }
        return number(first, where);
    }

    private List<Node> inner(BigInteger n, int level) {
        List<Node> inner = new ArrayList<>();
        while (BigInteger.valueOf(inner.size()).compareTo(n) < 0) {
            inner.add(data(level + 1));
        }
        return inner;
    }

    int node(int i, int k, int w) {
        Node d = find(i, k);
        if (d == null) {
            throw new IndexOutOfBoundsException();
        }
        switch (w) {
            case 0:
                return d.kind;
            case 1:
                return d.count();
            case 2:
                return d.kind == 6 ? (int) d.number : -1;
            case 3:
                return d.all().size();
            case 4:
                return d.depth();
            case 5:
                return item(i).around().get(k);
            default:
                return -1;
        }
    }

    long value(int i, int k) {
        Node d = find(i, k);
        if (d == null) {
            throw new IndexOutOfBoundsException();
        }
        if (d.kind != 0) {
            throw new IllegalArgumentException();
        }
        return d.number;
    }

    int byteAt(int i, int k, int j) {
        Node d = find(i, k);
        return d == null || d.kind != 2 || j < 0 || j >= d.text.length ? -1 : d.text[j];
    }

    int compare(int a, int b) {
        if (item(a) == null || item(b) == null) {
            throw new IndexOutOfBoundsException();
        }
        int[] one = item(a).written().stream().mapToInt(v -> v).toArray();
        int[] other = item(b).written().stream().mapToInt(v -> v).toArray();
        return Integer.signum(Arrays.compare(one, other));
    }

    int output(int k) {
        return k < 0 || k >= out.size() ? -1 : out.get(k);
    }

    int look(int which) {
        switch (which) {
            case 0:
                return stack.size();
            case 1:
                return total();
            case 2:
                return out.size();
            case 3:
                return in.size();
            case 4:
                return at;
            case 5:
                return fault;
            case 6:
                return place;
            case 7:
                return stack.isEmpty() ? -1 : item(0).written().size();
            default:
                return -1;
        }
    }
}
