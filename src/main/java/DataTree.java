/**
 * Trees of data, as scripts of a ledger get them: put together from below on a stack, written as
 * bytes in one way alone, and read again, with the number and the place of the first fault.
 *
 * <p>The nodes of all items of the stack stand in one block, the deepest item first, each item in
 * the order in which its nodes are numbered. So to put data together, to open and to copy them
 * only moves a stretch of that block, and no call but read() makes an object.
 */
public final class DataTree {
    public static final int NONE = -1;

    private static final int INTEGER = 0;
    /** A kind of heads alone: a node that is an integer has the kind INTEGER, whatever its sign. */
    private static final int BELOW_ZERO = 1;
    private static final int BYTES = 2;
    private static final int LIST = 4;
    private static final int MAP = 5;
    private static final int CONSTRUCTOR = 6;

    private static final int MAX_ITEMS = 16;
    private static final int MAX_STACK_NODES = 1000;
    private static final int MAX_DATA_NODES = 200;
    private static final int MAX_DEPTH = 12;
    private static final int MAX_BYTES = 64;
    private static final int MAX_NUMBER = 127;
    private static final int MAX_ROW = 4096;
    private static final int LONG_BYTES = 8;
    /** The dearest node: bytes, with a head of two bytes. */
    private static final int MAX_NODE_ROW = MAX_BYTES + 2;

    private static final int NO_FAULT = 0;
    private static final int FAULT_END = 1;
    private static final int FAULT_WIDTH = 2;
    private static final int FAULT_HEAD = 3;
    private static final int FAULT_DEPTH = 4;
    private static final int FAULT_NODES = 5;

    private final Nodes nodes;
    /** The first node of each item, the deepest item first; then where the next one would begin. */
    private final int[] starts;
    private int items;
    private final Row in;
    private final Row out;
    private int at;
    private int fault;
    private int faultPlace;
    private final Row left;
    private final Row right;

    public DataTree() {
        nodes = new Nodes();
        starts = new int[MAX_ITEMS + 1];
        in = new Row(MAX_ROW);
        out = new Row(MAX_ROW);
        left = new Row(MAX_NODE_ROW);
        right = new Row(MAX_NODE_ROW);
        faultPlace = NONE;
    }

    public boolean integer(long v) {
        if (!hasRoom(1)) {
            return false;
        }
        nodes.begin(stackEnd(), INTEGER, 0, v);
        pushItem();
        return true;
    }

    public boolean bytes(long part, int n) {
        if (n < 0 || n > LONG_BYTES || !hasRoom(1)) {
            return false;
        }
        nodes.begin(stackEnd(), BYTES, 0, 0);
        nodes.addLowest(stackEnd(), part, n);
        pushItem();
        return true;
    }

    public boolean more(long part, int n) {
        if (n < 1 || n > LONG_BYTES || items == 0) {
            return false;
        }
        int top = starts[items - 1];
        if (nodes.kind[top] != BYTES || nodes.count[top] + n > MAX_BYTES) {
            return false;
        }
        nodes.addLowest(top, part, n);
        return true;
    }

    public boolean list(int n) {
        return enclose(LIST, 0, n, n);
    }

    public boolean map(int n) {
        // Tested before it is doubled, as twice a great or a low int can be any even number.
        if (n < 0 || n > MAX_ITEMS / 2) {
            return false;
        }
        return enclose(MAP, 0, n, 2 * n);
    }

    public boolean constructor(int number, int n) {
        if (number < 0 || number > MAX_NUMBER) {
            return false;
        }
        return enclose(CONSTRUCTOR, number, n, n);
    }

    public boolean copy(int i) {
        int first = firstNode(i);
        if (first == NONE || !hasRoom(nodes.size[first])) {
            return false;
        }
        nodes.shift(first, stackEnd(), nodes.size[first]);
        pushItem();
        return true;
    }

    public boolean drop() {
        if (items == 0) {
            return false;
        }
        items--;
        return true;
    }

    public int open() {
        int top = firstNode(0);
        if (top == NONE || !nodes.holdsData(top)) {
            return NONE;
        }
        int within = nodes.within(top);
        if (items - 1 + within > MAX_ITEMS) {
            return NONE;
        }
        nodes.shift(top + 1, top, nodes.size[top] - 1);
        items--;
        for (int c = 0; c < within; c++) {
            pushItem();
        }
        return within;
    }

    public int write() {
        int top = firstNode(0);
        if (top == NONE || !out.hasRoom(nodes.treeLength(top))) {
            return NONE;
        }
        int end = top + nodes.size[top];
        for (int p = top; p < end; p++) {
            nodes.writeNode(p, out);
        }
        return out.length;
    }

    public void clear() {
        out.shorten(0);
    }

    public boolean give(long v, int n) {
        if (n < 1 || n > LONG_BYTES || !in.hasRoom(n)) {
            return false;
        }
        in.addLowest(v, n);
        return true;
    }

    public boolean cut(int n) {
        if (n < 0 || n > in.length) {
            return false;
        }
        in.shorten(n);
        at = 0;
        return true;
    }

    public void turn() {
        in.become(out);
        at = 0;
    }

    public int read() {
        if (at >= in.length || items == MAX_ITEMS) {
            return NONE;
        }
        Reading reading = new Reading(in, at, nodes, stackEnd());
        int found = reading.takeData();
        if (found != NO_FAULT) {
            fault = found;
            faultPlace = reading.place;
            return found;
        }
        if (reading.end > MAX_STACK_NODES) {
            return NONE;
        }
        pushItem();
        at = reading.at;
        fault = NO_FAULT;
        faultPlace = NONE;
        return NO_FAULT;
    }

    public int node(int i, int k, int w) throws IndexOutOfBoundsException {
        int p = find(i, k);
        if (p == NONE) {
            throw new IndexOutOfBoundsException("no such node");
        }
        switch (w) {
            case 0:
                return nodes.kind[p];
            case 1:
                return nodes.kind[p] == INTEGER ? NONE : nodes.count[p];
            case 2:
                return nodes.kind[p] == CONSTRUCTOR ? (int) nodes.number[p] : NONE;
            case 3:
                return nodes.size[p];
            case 4:
                return nodes.depth[p];
            case 5:
                return nodes.around(p - k, k);
            default:
                return NONE;
        }
    }

    public long value(int i, int k) throws IndexOutOfBoundsException, IllegalArgumentException {
        int p = find(i, k);
        if (p == NONE) {
            throw new IndexOutOfBoundsException("no such node");
        }
        if (nodes.kind[p] != INTEGER) {
            throw new IllegalArgumentException("the node is no integer");
        }
        return nodes.number[p];
    }

    public int byteAt(int i, int k, int j) {
        int p = find(i, k);
        if (p == NONE || nodes.kind[p] != BYTES || j < 0 || j >= nodes.count[p]) {
            return NONE;
        }
        return nodes.heldByte(p, j);
    }

    public int compare(int a, int b) throws IndexOutOfBoundsException {
        int p = firstNode(a);
        int q = firstNode(b);
        if (p == NONE || q == NONE) {
            throw new IndexOutOfBoundsException("no such item");
        }
        // No node's bytes begin with all of another node's: the first nodes that differ decide.
        int both = Math.min(nodes.size[p], nodes.size[q]);
        for (int k = 0; k < both; k++) {
            if (!nodes.same(p + k, q + k)) {
                return compareNodes(p + k, q + k);
            }
        }
        return 0;
    }

    public int output(int k) {
        return out.get(k);
    }

    public int look(int which) {
        switch (which) {
            case 0:
                return items;
            case 1:
                return stackEnd();
            case 2:
                return out.length;
            case 3:
                return in.length;
            case 4:
                return at;
            case 5:
                return fault;
            case 6:
                return faultPlace;
            case 7:
                return items == 0 ? NONE : nodes.treeLength(starts[items - 1]);
            default:
                return NONE;
        }
    }

    /** Where the next item would begin, and so how many nodes the stack has. */
    private int stackEnd() {
        return starts[items];
    }

    private boolean hasRoom(int moreNodes) {
        return items < MAX_ITEMS && stackEnd() + moreNodes <= MAX_STACK_NODES;
    }

    /** Makes the tree that stands behind the last item the last item; there must be room. */
    private void pushItem() {
        int first = stackEnd();
        items++;
        starts[items] = first + nodes.size[first];
    }

    /** The first node of item i, counted from the top; NONE if there is no such item. */
    private int firstNode(int i) {
        return i < 0 || i >= items ? NONE : starts[items - 1 - i];
    }

    /** Where node k of item i stands; NONE if there is none such. */
    private int find(int i, int k) {
        int first = firstNode(i);
        return first == NONE || k < 0 || k >= nodes.size[first] ? NONE : first + k;
    }

    /** The last items, as many as taken says, become what is within one new node. */
    private boolean enclose(int kind, int number, int count, int taken) {
        if (taken < 0 || taken > items) {
            return false;
        }
        int first = starts[items - taken];
        int end = stackEnd();
        int size = end - first + 1;
        int depth = deepest(taken) + 1;
        if (size > MAX_DATA_NODES || depth > MAX_DEPTH) {
            return false;
        }
        if (end + 1 > MAX_STACK_NODES || items - taken + 1 > MAX_ITEMS) {
            return false;
        }
        nodes.shift(first, first + 1, end - first);
        nodes.begin(first, kind, count, number);
        nodes.finish(first, size, depth);
        items -= taken;
        pushItem();
        return true;
    }

    /** The greatest depth among the last items, as many as taken says; 0 for none. */
    private int deepest(int taken) {
        int depth = 0;
        for (int q = items - taken; q < items; q++) {
            depth = Math.max(depth, nodes.depth[starts[q]]);
        }
        return depth;
    }

    private int compareNodes(int p, int q) {
        left.shorten(0);
        right.shorten(0);
        nodes.writeNode(p, left);
        nodes.writeNode(q, right);
        int both = Math.min(left.length, right.length);
        for (int j = 0; j < both; j++) {
            if (left.get(j) != right.get(j)) {
                return left.get(j) < right.get(j) ? -1 : 1;
            }
        }
        return Integer.compare(left.length, right.length);
    }

    /** The byte of v that has j lower ones below it. */
    private static int byteOf(long v, int j) {
        return (int) (v >>> (8 * j)) & 255;
    }

    /** The lowest five bits of the only head that a number may have; it is taken without a sign. */
    private static int lowBits(long number) {
        if (number < 0 || number >= 1L << 32) {
            return 27;
        }
        if (number >= 1L << 16) {
            return 26;
        }
        if (number >= 1L << 8) {
            return 25;
        }
        return number >= 24 ? 24 : (int) number;
    }

    /** How many bytes of its number stand behind a head's first byte. */
    private static int numberBytes(int lowBits) {
        return lowBits < 24 ? 0 : 1 << (lowBits - 24);
    }

    private static int headLength(long number) {
        return 1 + numberBytes(lowBits(number));
    }

    /** Bytes one behind the other, up to a limit that is set when the row is made. */
    private static final class Row {
        private final byte[] held;
        private int length;

        Row(int limit) {
            held = new byte[limit];
        }

        boolean hasRoom(int n) {
            return n <= held.length - length;
        }

        int get(int k) {
            return k < 0 || k >= length ? NONE : held[k] & 255;
        }

        void add(int b) {
            if (length < held.length) {
                held[length] = (byte) b;
                length++;
            }
        }

        void addLowest(long v, int n) {
            for (int j = n - 1; j >= 0; j--) {
                add(byteOf(v, j));
            }
        }

        void addHead(int kind, long number) {
            int low = lowBits(number);
            add(32 * kind + low);
            addLowest(number, numberBytes(low));
        }

        void shorten(int n) {
            length = n;
        }

        /** Takes over what another row with the same limit has. */
        void become(Row other) {
            System.arraycopy(other.held, 0, held, 0, other.length);
            length = other.length;
        }
    }

    /** The nodes, by their places in the block; a tree's nodes follow one another. */
    private static final class Nodes {
        /** Data that are read stand behind the stack until it is known whether they may stay. */
        private static final int PLACES = MAX_STACK_NODES + MAX_DATA_NODES;
        private static final int WORDS = MAX_BYTES / LONG_BYTES;

        private final int[] kind = new int[PLACES];
        /** How many bytes, data, pairs or fields. */
        private final int[] count = new int[PLACES];
        /** An integer's value, or a constructor's number. */
        private final long[] number = new long[PLACES];
        private final int[] size = new int[PLACES];
        private final int[] depth = new int[PLACES];
        /** The bytes, eight to a long, the first one highest; 0 where a node has none. */
        private final long[] words = new long[PLACES * WORDS];

        /** Sets down a node that has nothing within it yet. */
        void begin(int p, int newKind, int newCount, long newNumber) {
            kind[p] = newKind;
            count[p] = newCount;
            number[p] = newNumber;
            for (int w = 0; w < WORDS; w++) {
                words[p * WORDS + w] = 0;
            }
            finish(p, 1, 1);
        }

        void finish(int p, int newSize, int newDepth) {
            size[p] = newSize;
            depth[p] = newDepth;
        }

        void shift(int from, int to, int n) {
            System.arraycopy(kind, from, kind, to, n);
            System.arraycopy(count, from, count, to, n);
            System.arraycopy(number, from, number, to, n);
            System.arraycopy(size, from, size, to, n);
            System.arraycopy(depth, from, depth, to, n);
            System.arraycopy(words, from * WORDS, words, to * WORDS, n * WORDS);
        }

        void addByte(int p, int b) {
            int j = count[p];
            if (j < MAX_BYTES) {
                words[p * WORDS + j / LONG_BYTES] |= (long) b << wordShift(j);
                count[p] = j + 1;
            }
        }

        void addLowest(int p, long part, int n) {
            for (int j = n - 1; j >= 0; j--) {
                addByte(p, byteOf(part, j));
            }
        }

        int heldByte(int p, int j) {
            return (int) (words[p * WORDS + j / LONG_BYTES] >>> wordShift(j)) & 255;
        }

        private static int wordShift(int j) {
            return 8 * (LONG_BYTES - 1 - j % LONG_BYTES);
        }

        boolean holdsData(int p) {
            return kind[p] == LIST || kind[p] == MAP || kind[p] == CONSTRUCTOR;
        }

        /** How many data are within a node at once: of a pair, there are two. */
        int within(int p) {
            return kind[p] == MAP ? 2 * count[p] : count[p];
        }

        /** The node within which node k is at once, in the tree that begins at first. */
        int around(int first, int k) {
            for (int j = k - 1; j >= 0; j--) {
                if (j + size[first + j] > k) {
                    return j;
                }
            }
            return NONE;
        }

        /** Whether two nodes have the same bytes, but for the bytes of what is within them. */
        boolean same(int p, int q) {
            if (kind[p] != kind[q] || count[p] != count[q] || number[p] != number[q]) {
                return false;
            }
            for (int w = 0; w < WORDS; w++) {
                if (words[p * WORDS + w] != words[q * WORDS + w]) {
                    return false;
                }
            }
            return true;
        }

        /** How many bytes a node has, written with all that is within it. */
        int treeLength(int first) {
            int length = 0;
            int end = first + size[first];
            for (int p = first; p < end; p++) {
                length += nodeLength(p);
            }
            return length;
        }

        private int nodeLength(int p) {
            int length = headLength(headNumber(p));
            if (kind[p] == BYTES) {
                length += count[p];
            }
            if (kind[p] == CONSTRUCTOR) {
                length += headLength(count[p]);
            }
            return length;
        }

        /** Writes a node's own bytes, without those of what is within it. */
        void writeNode(int p, Row row) {
            boolean below = kind[p] == INTEGER && number[p] < 0;
            row.addHead(below ? BELOW_ZERO : kind[p], headNumber(p));
            if (kind[p] == BYTES) {
                for (int j = 0; j < count[p]; j++) {
                    row.add(heldByte(p, j));
                }
            }
            if (kind[p] == CONSTRUCTOR) {
                row.addHead(LIST, count[p]);
            }
        }

        private long headNumber(int p) {
            if (kind[p] == INTEGER) {
                return number[p] < 0 ? -1 - number[p] : number[p];
            }
            if (kind[p] == CONSTRUCTOR) {
                return number[p] < 7 ? 121 + number[p] : 1273 + number[p];
            }
            return count[p];
        }
    }

    /** One reading of data: from a row, from a place on, to the block of nodes, from a place on. */
    private static final class Reading {
        private final Row row;
        private final Nodes nodes;
        private final int first;
        /** The place of the byte that is read next. */
        private int at;
        /** Where the next node comes. */
        private int end;
        /** Of the latest head, or of the fault that ended the reading. */
        private int place;
        private int kind;
        private long number;

        Reading(Row row, int at, Nodes nodes, int first) {
            this.row = row;
            this.at = at;
            this.nodes = nodes;
            this.first = first;
            this.end = first;
        }

        /** Reads data: the first fault, or NO_FAULT. */
        int takeData() {
            return takeNode(1);
        }

        /** Reads a node with all that is within it; its level is guarded with its head. */
        private int takeNode(int level) {
            int found = takeNodeHead(level);
            if (found != NO_FAULT) {
                return found;
            }
            int p = end;
            end++;
            switch (kind) {
                case INTEGER:
                    nodes.begin(p, INTEGER, 0, number);
                    return NO_FAULT;
                case BELOW_ZERO:
                    nodes.begin(p, INTEGER, 0, -1 - number);
                    return NO_FAULT;
                case BYTES:
                    return takeBytes(p);
                case CONSTRUCTOR:
                    return takeFields(p, level);
                default:
                    nodes.begin(p, kind, dataCount(), 0);
                    return takeWithin(p, level);
            }
        }

        private int takeNodeHead(int level) {
            int found = takeHead(false);
            if (found != NO_FAULT) {
                return found;
            }
            if (!numberFits()) {
                return FAULT_HEAD;
            }
            if (level > MAX_DEPTH) {
                return FAULT_DEPTH;
            }
            return end - first >= MAX_DATA_NODES ? FAULT_NODES : NO_FAULT;
        }

        /** Reads a head to kind and number; of one that must be a list's, another kind is a fault. */
        private int takeHead(boolean mustBeList) {
            place = at;
            if (at >= row.length) {
                return endOfRow();
            }
            int b = row.get(at);
            int low = b & 31;
            kind = b >> 5;
            at++;
            if (low > 27 || kind == 3 || kind == 7 || (mustBeList && kind != LIST)) {
                return FAULT_HEAD;
            }
            number = low;
            int n = numberBytes(low);
            if (n == 0) {
                return NO_FAULT;
            }
            if (n > row.length - at) {
                return endOfRow();
            }
            takeNumber(n);
            return lowBits(number) == low ? NO_FAULT : FAULT_WIDTH;
        }

        private int endOfRow() {
            place = row.length;
            return FAULT_END;
        }

        private void takeNumber(int n) {
            number = 0;
            for (int j = 0; j < n; j++) {
                number = (number << 8) | row.get(at);
                at++;
            }
        }

        /** A number below 0 here is one of 2^63 or more. */
        private boolean numberFits() {
            switch (kind) {
                case INTEGER:
                case BELOW_ZERO:
                    return number >= 0;
                case BYTES:
                    return number >= 0 && number <= MAX_BYTES;
                case CONSTRUCTOR:
                    return (number >= 121 && number <= 127) || (number >= 1280 && number <= 1400);
                default:
                    return true;
            }
        }

        private int takeBytes(int p) {
            nodes.begin(p, BYTES, 0, 0);
            if (number > row.length - at) {
                return endOfRow();
            }
            int n = (int) number;
            for (int j = 0; j < n; j++) {
                nodes.addByte(p, row.get(at));
                at++;
            }
            return NO_FAULT;
        }

        private int takeFields(int p, int level) {
            long constructorNumber = number <= 127 ? number - 121 : number - 1273;
            int found = takeHead(true);
            if (found != NO_FAULT) {
                return found;
            }
            nodes.begin(p, CONSTRUCTOR, dataCount(), constructorNumber);
            return takeWithin(p, level);
        }

        /** A greater count is never read to its end, as its nodes would be too many: it is cut. */
        private int dataCount() {
            return number < 0 || number > MAX_DATA_NODES ? MAX_DATA_NODES : (int) number;
        }

        private int takeWithin(int p, int level) {
            int deepest = 0;
            int n = nodes.within(p);
            for (int c = 0; c < n; c++) {
                int inner = end;
                int found = takeNode(level + 1);
                if (found != NO_FAULT) {
                    return found;
                }
                deepest = Math.max(deepest, nodes.depth[inner]);
            }
            nodes.finish(p, end - p, deepest + 1);
            return NO_FAULT;
        }
    }
}
