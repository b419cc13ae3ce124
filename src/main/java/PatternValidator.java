import java.util.NoSuchElementException;

/** A validator of documents by patterns. */
public final class PatternValidator {
    private static final int EMPTY = 0;
    private static final int NONE = 1;
    private static final int TEXT = 2;
    private static final int NUMBER = 3;
    private static final int GROUP = 4;
    private static final int INTERLEAVE = 5;
    private static final int CHOICE = 6;
    private static final int MORE = 7;
    private static final int ELEMENT = 8;
    private static final int ATTRIBUTE = 9;
    private static final int DEFINITION = 10;

    private static final int NOTHING = -1;
    private static final int DEFINITIONS = 4;
    private static final int NAMES = 6;
    private static final int ANY_NAME = 6;
    private static final int MOST_PATTERNS = 40;
    private static final int MOST_DEPTH = 5;
    private static final int MOST_NODES = 16;
    private static final int MOST_DEEP = 4;
    private static final int MOST_ATTRIBUTES = 3;
    private static final int MOST_CHILDREN = 6;

    /** A pattern and the four definitions behind it, each of depth 5, come to 25 levels. */
    private static final int MOST_LEVELS = 32;

    private final Grammar grammar;
    private final Document document;
    private final Matcher matcher;

    public PatternValidator() {
        grammar = new Grammar();
        document = new Document();
        matcher = new Matcher(grammar, document);
    }

    public int pattern(int kind, int a, int b) throws IllegalArgumentException, IllegalStateException {
        if (!grammar.allows(kind, a, b)) {
            throw new IllegalArgumentException();
        }
        if (!grammar.hasRoomFor(kind, a, b)) {
            throw new IllegalStateException();
        }
        return grammar.addPattern(kind, a, b);
    }

    public int define(int definition, int pattern)
            throws IllegalArgumentException, NoSuchElementException, UnsupportedOperationException {
        if (definition < 0 || definition >= DEFINITIONS) {
            throw new IllegalArgumentException();
        }
        if (!grammar.has(pattern)) {
            throw new NoSuchElementException();
        }
        if (grammar.comesTo(pattern, definition)) {
            throw new UnsupportedOperationException();
        }
        return grammar.give(definition, pattern) ? 1 : 0;
    }

    public int open(int name) throws IllegalArgumentException, IllegalStateException {
        if (name < 0 || name >= NAMES) {
            throw new IllegalArgumentException();
        }
        if (!document.takesNode()) {
            throw new IllegalStateException();
        }
        return document.addNode(name);
    }

    public int attribute(int name, int value) throws IllegalArgumentException, IllegalStateException {
        if (name < 0 || name >= NAMES) {
            throw new IllegalArgumentException();
        }
        if (!document.takesAttribute(name)) {
            throw new IllegalStateException();
        }
        return document.addAttribute(name, value);
    }

    public int text(int value) throws IllegalStateException {
        if (!document.takesChild()) {
            throw new IllegalStateException();
        }
        return document.addText(value);
    }

    public int close() throws IllegalStateException {
        if (document.lastOpen() == NOTHING) {
            throw new IllegalStateException();
        }
        return document.endLast();
    }

    public int clear() {
        return document.takeAway();
    }

    public int matches(int pattern, int node) throws NoSuchElementException {
        if (!grammar.has(pattern) || !document.has(node)) {
            throw new NoSuchElementException();
        }
        matcher.weighNodes(pattern, node);
        return matcher.suitsNode(pattern, node) ? 1 : 0;
    }

    public int content(int pattern, int node) throws NoSuchElementException {
        if (!grammar.has(pattern) || !document.has(node)) {
            throw new NoSuchElementException();
        }
        matcher.weighNodes(pattern, node);
        return document.nodes[node].suits(pattern) ? 1 : 0;
    }

    public int longest(int pattern, int node) throws NoSuchElementException, UnsupportedOperationException {
        if (!grammar.has(pattern) || !document.has(node)) {
            throw new NoSuchElementException();
        }
        matcher.weighNodes(pattern, node);
        int most = matcher.mostChildren(pattern, document.nodes[node]);
        if (most == NOTHING) {
            throw new UnsupportedOperationException();
        }
        return most;
    }

    public int find(int pattern) throws NoSuchElementException, UnsupportedOperationException {
        if (!grammar.has(pattern)) {
            throw new NoSuchElementException();
        }
        matcher.weighNodes(pattern, 0);
        int least = matcher.leastNode(pattern);
        if (least == NOTHING) {
            throw new UnsupportedOperationException();
        }
        return least;
    }

    public int nullable(int pattern) throws NoSuchElementException {
        if (!grammar.has(pattern)) {
            throw new NoSuchElementException();
        }
        return matcher.suitsNothing(pattern) ? 1 : 0;
    }

    public int count(int what) throws IllegalArgumentException {
        switch (what) {
            case 0:
                return grammar.made;
            case 1:
                return grammar.definitionsGiven();
            case 2:
                return document.size;
            case 3:
                return document.deep;
            case 4:
                return document.lastName();
            case 5:
                return document.lastOpen();
            default:
                throw new IllegalArgumentException();
        }
    }

    /** The patterns and the definitions. */
    private static final class Grammar {
        private final int[] kinds = new int[MOST_PATTERNS];
        private final int[] firsts = new int[MOST_PATTERNS];
        private final int[] seconds = new int[MOST_PATTERNS];
        private final int[] depths = new int[MOST_PATTERNS];
        private int made;

        private final int[] given = {NOTHING, NOTHING, NOTHING, NOTHING};

        /** Patterns, each behind those that it is made of (but for the content of an element). */
        private final int[] order = new int[MOST_PATTERNS];
        private int listed;
        private long seen;

        boolean has(int pattern) {
            return pattern >= 0 && pattern < made;
        }

        boolean allows(int kind, int a, int b) {
            switch (kind) {
                case EMPTY:
                case NONE:
                case TEXT:
                case NUMBER:
                    return true;
                case GROUP:
                case INTERLEAVE:
                case CHOICE:
                    return has(a) && has(b);
                case MORE:
                    return has(a);
                case ELEMENT:
                case ATTRIBUTE:
                    return a >= 0 && a <= ANY_NAME && has(b);
                case DEFINITION:
                    return a >= 0 && a < DEFINITIONS;
                default:
                    return false;
            }
        }

        boolean hasRoomFor(int kind, int a, int b) {
            return made < MOST_PATTERNS && depthOf(kind, a, b) <= MOST_DEPTH;
        }

        int addPattern(int kind, int a, int b) {
            kinds[made] = kind;
            firsts[made] = a;
            seconds[made] = b;
            depths[made] = depthOf(kind, a, b);
            made++;
            return made - 1;
        }

        private int depthOf(int kind, int a, int b) {
            int deepest = 0;
            if (isMadeOfFirst(kind)) {
                deepest = depths[a];
            }
            if (isMadeOfSecond(kind)) {
                deepest = Math.max(deepest, depths[b]);
            }
            return deepest + 1;
        }

        private static boolean isMadeOfFirst(int kind) {
            return kind == GROUP || kind == INTERLEAVE || kind == CHOICE || kind == MORE;
        }

        private static boolean isMadeOfSecond(int kind) {
            return kind == GROUP || kind == INTERLEAVE || kind == CHOICE || kind == ELEMENT || kind == ATTRIBUTE;
        }

        boolean give(int definition, int pattern) {
            boolean hadNone = given[definition] == NOTHING;
            given[definition] = pattern;
            return hadNone;
        }

        int definitionsGiven() {
            int sum = 0;
            for (int pattern : given) {
                if (pattern != NOTHING) {
                    sum++;
                }
            }
            return sum;
        }

        boolean comesTo(int pattern, int definition) {
            startList();
            list(pattern, 0);
            for (int i = 0; i < listed; i++) {
                if (kinds[order[i]] == DEFINITION && firsts[order[i]] == definition) {
                    return true;
                }
            }
            return false;
        }

        /** Lists all patterns that can have a say in what the pattern matches. */
        void listAll(int pattern) {
            startList();
            list(pattern, 0);
            // The content of an element is asked of other nodes, so it may stand behind the element.
            for (int i = 0; i < listed && i < MOST_PATTERNS; i++) {
                if (kinds[order[i]] == ELEMENT) {
                    list(seconds[order[i]], 0);
                }
            }
        }

        private void startList() {
            listed = 0;
            seen = 0;
        }

        private void list(int pattern, int level) {
            if (level > MOST_LEVELS || (seen >>> pattern & 1) != 0) {
                return;
            }
            seen |= 1L << pattern;
            int kind = kinds[pattern];
            if (isMadeOfFirst(kind)) {
                list(firsts[pattern], level + 1);
            }
            if (isMadeOfSecond(kind) && kind != ELEMENT) {
                list(seconds[pattern], level + 1);
            }
            if (kind == DEFINITION && given[firsts[pattern]] != NOTHING) {
                list(given[firsts[pattern]], level + 1);
            }
            order[listed] = pattern;
            listed++;
        }
    }

    /** Attributes with children: those of an element of the document, or a row that is asked about. */
    private static final class Node {
        private int name;

        private final int[] attributeNames = new int[MOST_ATTRIBUTES];
        private final int[] attributeValues = new int[MOST_ATTRIBUTES];
        /** Bit p of one: pattern p matches the value. */
        private final long[] valueSuited = new long[MOST_ATTRIBUTES];
        private int attributes;

        /** The number of a child that is an element, NOTHING for a text. */
        private final int[] childNodes = new int[MOST_CHILDREN];
        private final int[] childTexts = new int[MOST_CHILDREN];
        private int children;

        /** Bit p: pattern p matches all the attributes with all the children. */
        private long suited;

        void begin(int newName) {
            name = newName;
            attributes = 0;
            children = 0;
        }

        void addAttribute(int newName, int value) {
            attributeNames[attributes] = newName;
            attributeValues[attributes] = value;
            attributes++;
        }

        void addChild(int node, int value) {
            childNodes[children] = node;
            childTexts[children] = value;
            children++;
        }

        boolean hasAttribute(int asked) {
            for (int i = 0; i < attributes; i++) {
                if (attributeNames[i] == asked) {
                    return true;
                }
            }
            return false;
        }

        boolean suits(int pattern) {
            return (suited >>> pattern & 1) != 0;
        }
    }

    /** The nodes, and which of them are open. */
    private static final class Document {
        private final Node[] nodes = new Node[MOST_NODES];
        private int size;

        private final int[] path = new int[MOST_DEEP];
        private int deep;

        Document() {
            for (int i = 0; i < MOST_NODES; i++) {
                nodes[i] = new Node();
            }
        }

        boolean has(int node) {
            return node >= 0 && node < size;
        }

        int lastOpen() {
            return deep == 0 ? NOTHING : path[deep - 1];
        }

        int lastName() {
            return deep == 0 ? NOTHING : nodes[path[deep - 1]].name;
        }

        boolean takesNode() {
            if (deep == 0) {
                return size == 0;
            }
            return size < MOST_NODES && deep < MOST_DEEP && takesChild();
        }

        int addNode(int name) {
            if (deep > 0) {
                nodes[path[deep - 1]].addChild(size, 0);
            }
            nodes[size].begin(name);
            path[deep] = size;
            deep++;
            size++;
            return size - 1;
        }

        boolean takesAttribute(int name) {
            if (deep == 0) {
                return false;
            }
            Node last = nodes[path[deep - 1]];
            return last.children == 0 && last.attributes < MOST_ATTRIBUTES && !last.hasAttribute(name);
        }

        int addAttribute(int name, int value) {
            Node last = nodes[path[deep - 1]];
            last.addAttribute(name, value);
            return last.attributes;
        }

        boolean takesChild() {
            return deep > 0 && nodes[path[deep - 1]].children < MOST_CHILDREN;
        }

        int addText(int value) {
            Node last = nodes[path[deep - 1]];
            last.addChild(NOTHING, value);
            return last.children;
        }

        int endLast() {
            deep--;
            return path[deep];
        }

        int takeAway() {
            int had = size;
            size = 0;
            deep = 0;
            return had;
        }
    }

    /**
     * Finds what patterns match. A set of attributes, and a row of children, is a number whose bit i
     * tells if attribute i, or child i, of the node at hand is in it. So all rows that a pattern
     * matches with one set are the bits of one long.
     */
    private static final class Matcher {
        private static final int MOST_SETS = 1 << MOST_ATTRIBUTES;
        private static final int MOST_ROWS = 1 << MOST_CHILDREN;

        /** For each child, the rows that are without it. */
        private static final long[] WITHOUT = {
            0x5555555555555555L, 0x3333333333333333L, 0x0F0F0F0F0F0F0F0FL,
            0x00FF00FF00FF00FFL, 0x0000FFFF0000FFFFL, 0x00000000FFFFFFFFL,
        };

        private final Grammar grammar;
        private final Document document;

        /** For each row, the rows that share no child with it. */
        private final long[] beside = new long[MOST_ROWS];
        /** For each row, the rows whose children all come later than its own. */
        private final long[] behind = new long[MOST_ROWS];

        /** For each pattern and set, the rows that the pattern matches with the set. */
        private final long[] rows = new long[MOST_PATTERNS * MOST_SETS];
        /** How many sets of attributes the node at hand has. */
        private int sets;

        /** A row that is not in the document as it stands: nothing, one text, or one node alone. */
        private final Node lone = new Node();

        Matcher(Grammar grammar, Document document) {
            this.grammar = grammar;
            this.document = document;
            for (int row = 0; row < MOST_ROWS; row++) {
                long disjoint = -1L;
                long later = -1L;
                for (int child = 0; child < MOST_CHILDREN; child++) {
                    if ((row >>> child & 1) != 0) {
                        disjoint &= WITHOUT[child];
                    }
                    if (row >>> child != 0) {
                        later &= WITHOUT[child];
                    }
                }
                beside[row] = disjoint;
                behind[row] = later;
            }
        }

        /**
         * Finds, for the node and all that were opened after it, which patterns match what they hold.
         * A node's own children were opened after it: from the last node on, they are always known.
         */
        void weighNodes(int pattern, int first) {
            grammar.listAll(pattern);
            for (int i = document.size - 1; i >= first; i--) {
                Node node = document.nodes[i];
                weighValues(node);
                weigh(node);
            }
        }

        /** To be asked after weighNodes. */
        boolean suitsNode(int pattern, int node) {
            lone.begin(0);
            lone.addChild(node, 0);
            weigh(lone);
            return lone.suits(pattern);
        }

        /** To be asked after weighNodes. */
        int leastNode(int pattern) {
            for (int i = 0; i < document.size; i++) {
                if (suitsNode(pattern, i)) {
                    return i;
                }
            }
            return NOTHING;
        }

        /** To be asked after weighNodes with this node, which is then the one at hand. */
        int mostChildren(int pattern, Node node) {
            long matched = rows[pattern * MOST_SETS + sets - 1];
            for (int left = node.children; left >= 0; left--) {
                int row = (1 << left) - 1;
                if ((matched >>> row & 1) != 0) {
                    return left;
                }
            }
            return NOTHING;
        }

        boolean suitsNothing(int pattern) {
            grammar.listAll(pattern);
            lone.begin(0);
            weigh(lone);
            return lone.suits(pattern);
        }

        private void weighValues(Node node) {
            for (int i = 0; i < node.attributes; i++) {
                lone.begin(0);
                lone.addChild(NOTHING, node.attributeValues[i]);
                weigh(lone);
                node.valueSuited[i] = lone.suited;
            }
        }

        private void weigh(Node node) {
            sets = 1 << node.attributes;
            int wholeRow = (1 << node.children) - 1;
            long suited = 0;
            for (int i = 0; i < grammar.listed; i++) {
                int pattern = grammar.order[i];
                weighPattern(pattern, node);
                if ((rows[pattern * MOST_SETS + sets - 1] >>> wholeRow & 1) != 0) {
                    suited |= 1L << pattern;
                }
            }
            node.suited = suited;
        }

        private void weighPattern(int pattern, Node node) {
            int first = grammar.firsts[pattern];
            int second = grammar.seconds[pattern];
            wipe(pattern);
            switch (grammar.kinds[pattern]) {
                case EMPTY:
                    rows[pattern * MOST_SETS] = 1;
                    break;
                case TEXT:
                    rows[pattern * MOST_SETS] = rowsOfTexts(node);
                    break;
                case NUMBER:
                    rows[pattern * MOST_SETS] = rowsOfOneText(node, first, second);
                    break;
                case GROUP:
                    join(pattern, first, second, behind);
                    break;
                case INTERLEAVE:
                    join(pattern, first, second, beside);
                    break;
                case CHOICE:
                    include(pattern, first);
                    include(pattern, second);
                    break;
                case MORE:
                    include(pattern, first);
                    join(pattern, pattern, first, behind);
                    break;
                case ELEMENT:
                    rows[pattern * MOST_SETS] = rowsOfOneElement(node, first, second);
                    break;
                case ATTRIBUTE:
                    matchAttributes(pattern, node);
                    break;
                case DEFINITION:
                    if (grammar.given[first] != NOTHING) {
                        include(pattern, grammar.given[first]);
                    }
                    break;
                case NONE:
                default:
                    break;
            }
        }

        private void wipe(int pattern) {
            for (int set = 0; set < sets; set++) {
                rows[pattern * MOST_SETS + set] = 0;
            }
        }

        private void include(int pattern, int other) {
            for (int set = 0; set < sets; set++) {
                rows[pattern * MOST_SETS + set] |= rows[other * MOST_SETS + set];
            }
        }

        private long rowsOfTexts(Node node) {
            long found = 1;
            for (int i = 0; i < node.children; i++) {
                if (node.childNodes[i] == NOTHING) {
                    found |= found << (1 << i);
                }
            }
            return found;
        }

        private long rowsOfOneText(Node node, int least, int greatest) {
            long found = 0;
            for (int i = 0; i < node.children; i++) {
                int value = node.childTexts[i];
                if (node.childNodes[i] == NOTHING && value >= least && value <= greatest) {
                    found |= 1L << (1 << i);
                }
            }
            return found;
        }

        private long rowsOfOneElement(Node node, int name, int pattern) {
            long found = 0;
            for (int i = 0; i < node.children; i++) {
                if (node.childNodes[i] != NOTHING) {
                    Node child = document.nodes[node.childNodes[i]];
                    if ((name == ANY_NAME || name == child.name) && child.suits(pattern)) {
                        found |= 1L << (1 << i);
                    }
                }
            }
            return found;
        }

        private void matchAttributes(int pattern, Node node) {
            int name = grammar.firsts[pattern];
            int value = grammar.seconds[pattern];
            for (int i = 0; i < node.attributes; i++) {
                boolean named = name == ANY_NAME || name == node.attributeNames[i];
                if (named && (node.valueSuited[i] >>> value & 1) != 0) {
                    rows[pattern * MOST_SETS + (1 << i)] = 1;
                }
            }
        }

        /**
         * Adds to the pattern what first and second match together, the row of second being among
         * those that room tells for the row of first. What is added is always greater, as a set or
         * as a row, than what it is made from: so where first is the pattern itself, as for MORE,
         * going upwards meets all that is added on the way.
         */
        private void join(int pattern, int first, int second, long[] room) {
            for (int set = 0; set < sets; set++) {
                int at = first * MOST_SETS + set;
                long left = rows[at];
                for (int step = 0; step < MOST_ROWS && left != 0; step++) {
                    int row = Long.bitCount((left & -left) - 1);
                    append(pattern, set, row, second, room[row]);
                    left = rows[at] & (-2L << row);
                }
            }
        }

        private void append(int pattern, int set, int row, int second, long room) {
            for (int other = 0; other < sets; other++) {
                if ((set & other) == 0) {
                    // A row of second has no child of this row, so adding the numbers unites them.
                    rows[pattern * MOST_SETS + (set | other)] |= (rows[second * MOST_SETS + other] & room) << row;
                }
            }
        }
    }
}
