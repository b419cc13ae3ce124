import java.util.NoSuchElementException;

/** Promises 9 to 13, and what each kind of pattern matches. */
public final class MatchingTest {
    private static final Class<NoSuchElementException> MISSING = NoSuchElementException.class;
    private static final Class<UnsupportedOperationException> UNSUPPORTED = UnsupportedOperationException.class;

    private static final int EMPTY = 0;
    private static final int NONE = 1;
    private static final int TEXT = 2;
    private static final int NUMBER = 3;
    private static final int GROUP = 4;
    private static final int INTERLEAVE = 5;
    private static final int CHOICE = 6;
    private static final int MORE = 7;
    private static final int ELEMENT = 8;
    private static final int ATTRIBUTE = 9;
    private static final int DEFINITION = 10;

    private static final Check CHECK = new Check();

    private MatchingTest() {
    }

    public static void main(String[] args) {
        emptyAndNone();
        texts();
        numbers();
        groups();
        groupsWithAttributes();
        interleavings();
        interleavedGroups();
        choices();
        repetitions();
        repetitionsWithAttributes();
        elements();
        attributes();
        definitions();
        recursiveDefinitions();
        promise9Matches();
        promise10Content();
        promise11Longest();
        promise12Find();
        promise13Nullable();
        fullestRun();
        CHECK.end();
    }

    /** An element 0 with these texts, left open. */
    private static void openWith(PatternValidator v, int... texts) {
        v.clear();
        v.open(0);
        for (int value : texts) {
            v.text(value);
        }
    }

    private static void content(String what, int due, PatternValidator v, int pattern) {
        CHECK.answers(what, due, () -> v.content(pattern, 0));
    }

    private static void emptyAndNone() {
        PatternValidator v = new PatternValidator();
        int empty = v.pattern(EMPTY, 0, 0);
        int none = v.pattern(NONE, 0, 0);
        v.open(0);
        content("EMPTY, nothing", 1, v, empty);
        content("NONE, nothing", 0, v, none);
        v.attribute(0, 0);
        content("EMPTY, an attribute", 0, v, empty);
        content("NONE, an attribute", 0, v, none);
        openWith(v, 1);
        content("EMPTY, a text", 0, v, empty);
        content("NONE, a text", 0, v, none);
    }

    private static void texts() {
        PatternValidator v = new PatternValidator();
        int text = v.pattern(TEXT, 0, 0);
        openWith(v);
        content("TEXT, no text", 1, v, text);
        openWith(v, 5);
        content("TEXT, one", 1, v, text);
        openWith(v, 1, 2, 3, 4, 5, 6);
        content("TEXT, six", 1, v, text);
        openWith(v, 1, 2);
        v.open(0);
        content("TEXT, an element too", 0, v, text);
        v.clear();
        v.open(0);
        v.attribute(0, 1);
        content("TEXT, an attribute", 0, v, text);
    }

    private static void numbers() {
        PatternValidator v = new PatternValidator();
        int few = v.pattern(NUMBER, -2, 3);
        int no = v.pattern(NUMBER, 3, -2);
        int all = v.pattern(NUMBER, Integer.MIN_VALUE, Integer.MAX_VALUE);
        openWith(v);
        content("NUMBER, no text", 0, v, few);
        int[] values = {-3, -2, 0, 3, 4};
        int[] due = {0, 1, 1, 1, 0};
        for (int i = 0; i < values.length; i++) {
            openWith(v, values[i]);
            content("NUMBER -2 to 3, " + values[i], due[i], v, few);
            content("NUMBER 3 to -2, " + values[i], 0, v, no);
            content("NUMBER of all, " + values[i], 1, v, all);
        }
        openWith(v, Integer.MIN_VALUE);
        content("NUMBER, the least", 1, v, all);
        openWith(v, Integer.MAX_VALUE);
        content("NUMBER, the greatest", 1, v, all);
        openWith(v, 0, 1);
        content("NUMBER, two texts", 0, v, few);
        openWith(v);
        v.open(0);
        content("NUMBER, an element", 0, v, all);
        v.clear();
        v.open(0);
        v.attribute(0, 0);
        v.text(0);
        content("NUMBER, an attribute too", 0, v, few);
    }

    private static void groups() {
        PatternValidator v = new PatternValidator();
        int one = v.pattern(NUMBER, 1, 1);
        int two = v.pattern(NUMBER, 2, 2);
        int text = v.pattern(TEXT, 0, 0);
        int oneTwo = v.pattern(GROUP, one, two);
        int textTwo = v.pattern(GROUP, text, two);
        int textText = v.pattern(GROUP, text, text);
        int inner = v.pattern(GROUP, oneTwo, oneTwo);
        openWith(v, 1, 2);
        content("GROUP in order", 1, v, oneTwo);
        content("GROUP of a text and a number", 1, v, textTwo);
        content("GROUP of texts", 1, v, textText);
        openWith(v, 2, 1);
        content("GROUP out of order", 0, v, oneTwo);
        content("GROUP with the number first", 0, v, textTwo);
        openWith(v, 1);
        content("GROUP without the second", 0, v, oneTwo);
        openWith(v, 1, 1, 1, 1, 1, 2);
        content("GROUP of many texts and a number", 1, v, textTwo);
        openWith(v, 1, 2, 1, 2);
        content("GROUP of groups", 1, v, inner);
        openWith(v, 1, 1, 2, 2);
        content("GROUP of groups out of order", 0, v, inner);
        openWith(v);
        content("GROUP of nothings", 1, v, textText);
    }

    private static void groupsWithAttributes() {
        PatternValidator v = new PatternValidator();
        int one = v.pattern(NUMBER, 1, 1);
        int two = v.pattern(NUMBER, 2, 2);
        int first = v.pattern(ATTRIBUTE, 0, one);
        int second = v.pattern(ATTRIBUTE, 1, two);
        int both = v.pattern(GROUP, first, second);
        int swapped = v.pattern(GROUP, second, first);
        int twice = v.pattern(GROUP, first, first);
        int withText = v.pattern(GROUP, one, first);
        int choice = v.pattern(GROUP, v.pattern(CHOICE, first, second), v.pattern(CHOICE, first, second));
        v.open(0);
        v.attribute(1, 2);
        v.attribute(0, 1);
        content("GROUP of attributes", 1, v, both);
        content("GROUP of attributes, they have no order", 1, v, swapped);
        content("GROUP, one attribute cannot serve twice", 0, v, twice);
        content("GROUP, an attribute too many", 0, v, first);
        content("GROUP of choices", 1, v, choice);
        v.clear();
        v.open(0);
        v.attribute(0, 1);
        content("GROUP, once where two are asked", 0, v, twice);
        content("GROUP of choices, one missing", 0, v, choice);
        v.text(1);
        content("GROUP of a text and an attribute, in any order", 1, v, withText);
    }

    private static void interleavings() {
        PatternValidator v = new PatternValidator();
        int one = v.pattern(NUMBER, 1, 1);
        int two = v.pattern(NUMBER, 2, 2);
        int both = v.pattern(INTERLEAVE, one, two);
        int ones = v.pattern(MORE, one, 0);
        int twos = v.pattern(MORE, two, 0);
        int many = v.pattern(INTERLEAVE, ones, twos);
        int attribute = v.pattern(ATTRIBUTE, 6, one);
        int attributes = v.pattern(INTERLEAVE, attribute, many);
        openWith(v, 1, 2);
        content("INTERLEAVE in order", 1, v, both);
        openWith(v, 2, 1);
        content("INTERLEAVE out of order", 1, v, both);
        openWith(v, 2, 2);
        content("INTERLEAVE, one is missing", 0, v, both);
        openWith(v, 1, 2, 1);
        content("INTERLEAVE, one too many", 0, v, both);
        openWith(v, 1, 2, 1, 2, 2, 1);
        content("INTERLEAVE of many", 1, v, many);
        openWith(v, 1, 2, 1, 2, 3, 1);
        content("INTERLEAVE of many with a stranger", 0, v, many);
        openWith(v, 1, 1, 1);
        content("INTERLEAVE of many of one", 0, v, many);
        v.clear();
        v.open(0);
        v.attribute(4, 1);
        v.text(2);
        v.text(1);
        v.text(2);
        content("INTERLEAVE with an attribute", 1, v, attributes);
        content("INTERLEAVE with an attribute too many", 0, v, many);
    }

    private static void interleavedGroups() {
        PatternValidator v = new PatternValidator();
        int[] number = new int[5];
        for (int i = 1; i < 5; i++) {
            number[i] = v.pattern(NUMBER, i, i);
        }
        int low = v.pattern(GROUP, number[1], number[2]);
        int high = v.pattern(GROUP, number[3], number[4]);
        int both = v.pattern(INTERLEAVE, low, high);
        int repeated = v.pattern(INTERLEAVE, v.pattern(MORE, low, 0), v.pattern(NUMBER, 9, 9));
        int ordered = v.pattern(GROUP, both, number[1]);
        int[][] rows = {{1, 2, 3, 4}, {1, 3, 2, 4}, {3, 1, 4, 2}, {3, 4, 1, 2}, {2, 1, 3, 4}, {1, 4, 3, 2}};
        int[] due = {1, 1, 1, 1, 0, 0};
        for (int i = 0; i < rows.length; i++) {
            openWith(v, rows[i]);
            content("INTERLEAVE keeps the order in each row, " + i, due[i], v, both);
        }
        openWith(v, 1, 2, 1, 9, 2);
        content("INTERLEAVE into a repetition", 1, v, repeated);
        openWith(v, 1, 1, 2, 9, 2);
        content("INTERLEAVE into a broken repetition", 0, v, repeated);
        openWith(v, 3, 1, 4, 2, 1);
        content("INTERLEAVE and one behind", 1, v, ordered);
        openWith(v, 3, 1, 1, 4, 2);
        content("INTERLEAVE and one amidst", 0, v, ordered);
    }

    private static void choices() {
        PatternValidator v = new PatternValidator();
        int one = v.pattern(NUMBER, 1, 1);
        int two = v.pattern(NUMBER, 2, 2);
        int either = v.pattern(CHOICE, one, two);
        int attribute = v.pattern(ATTRIBUTE, 0, one);
        int orAttribute = v.pattern(CHOICE, attribute, two);
        openWith(v, 1);
        content("CHOICE, a", 1, v, either);
        openWith(v, 2);
        content("CHOICE, b", 1, v, either);
        content("CHOICE, not the attribute", 1, v, orAttribute);
        openWith(v, 3);
        content("CHOICE, neither", 0, v, either);
        openWith(v, 1, 2);
        content("CHOICE, not both", 0, v, either);
        v.clear();
        v.open(0);
        v.attribute(0, 1);
        content("CHOICE, the attribute", 1, v, orAttribute);
        v.text(2);
        content("CHOICE, not the attribute with the text", 0, v, orAttribute);
    }

    private static void repetitions() {
        PatternValidator v = new PatternValidator();
        int one = v.pattern(NUMBER, 1, 1);
        int two = v.pattern(NUMBER, 2, 2);
        int pair = v.pattern(GROUP, one, two);
        int pairs = v.pattern(MORE, pair, 0);
        int ones = v.pattern(MORE, one, 0);
        int empties = v.pattern(MORE, v.pattern(EMPTY, 0, 0), 0);
        int nones = v.pattern(MORE, v.pattern(NONE, 0, 0), 0);
        int optional = v.pattern(MORE, v.pattern(CHOICE, one, v.pattern(EMPTY, 0, 0)), 0);
        openWith(v);
        content("MORE, nothing", 0, v, ones);
        content("MORE of EMPTY, nothing", 1, v, empties);
        content("MORE of NONE, nothing", 0, v, nones);
        content("MORE of an optional one, nothing", 1, v, optional);
        openWith(v, 1);
        content("MORE, one", 1, v, ones);
        content("MORE of EMPTY, one", 0, v, empties);
        openWith(v, 1, 1, 1, 1, 1, 1);
        content("MORE, six", 1, v, ones);
        content("MORE of an optional one, six", 1, v, optional);
        openWith(v, 1, 1, 2);
        content("MORE, with a stranger", 0, v, ones);
        openWith(v, 1, 2, 1, 2, 1, 2);
        content("MORE of pairs", 1, v, pairs);
        openWith(v, 1, 2, 1, 2, 1);
        content("MORE of pairs, one broken", 0, v, pairs);
        openWith(v, 1, 1, 2, 2);
        content("MORE cuts, it does not interleave", 0, v, pairs);
    }

    private static void repetitionsWithAttributes() {
        PatternValidator v = new PatternValidator();
        int one = v.pattern(NUMBER, 1, 1);
        int attribute = v.pattern(ATTRIBUTE, 6, one);
        int attributes = v.pattern(MORE, attribute, 0);
        int either = v.pattern(MORE, v.pattern(CHOICE, attribute, one), 0);
        int each = v.pattern(MORE, v.pattern(GROUP, attribute, one), 0);
        v.open(0);
        content("MORE attributes, none", 0, v, attributes);
        v.attribute(3, 1);
        content("MORE attributes, one", 1, v, attributes);
        v.attribute(1, 1);
        v.attribute(5, 1);
        content("MORE attributes, three", 1, v, attributes);
        content("MORE of either, attributes alone", 1, v, either);
        for (int i = 1; i <= 6; i++) {
            v.text(1);
            content("MORE of either, with texts " + i, 1, v, either);
            content("MORE of attributes each with a text " + i, i == 3 ? 1 : 0, v, each);
        }
        content("MORE attributes, texts too", 0, v, attributes);
    }

    private static void elements() {
        PatternValidator v = new PatternValidator();
        int text = v.pattern(TEXT, 0, 0);
        int one = v.pattern(NUMBER, 1, 1);
        int named = v.pattern(ELEMENT, 2, text);
        int any = v.pattern(ELEMENT, 6, text);
        int withOne = v.pattern(ELEMENT, 2, one);
        int marked = v.pattern(ELEMENT, 2, v.pattern(GROUP, v.pattern(ATTRIBUTE, 4, one), one));
        v.open(0);
        content("ELEMENT, no element", 0, v, any);
        v.open(2);
        content("ELEMENT with the name", 1, v, named);
        content("ELEMENT with any name", 1, v, any);
        content("ELEMENT without its content", 0, v, withOne);
        v.attribute(4, 1);
        content("ELEMENT with an attribute too many", 0, v, named);
        v.text(1);
        content("ELEMENT with an attribute and a text", 1, v, marked);
        content("ELEMENT with a text and an attribute too many", 0, v, withOne);
        v.close();
        v.open(2);
        content("ELEMENT, two elements", 0, v, marked);
        v.clear();
        v.open(0);
        v.open(3);
        content("ELEMENT with another name", 0, v, named);
        content("ELEMENT with any other name", 1, v, any);
        v.close();
        v.text(1);
        content("ELEMENT, a text too", 0, v, any);
        v.clear();
        v.open(0);
        v.attribute(0, 1);
        v.open(2);
        content("ELEMENT, an attribute beside it", 0, v, any);
        openWith(v, 1);
        content("ELEMENT, a text alone", 0, v, any);
    }

    private static void attributes() {
        PatternValidator v = new PatternValidator();
        int one = v.pattern(NUMBER, 1, 1);
        int text = v.pattern(TEXT, 0, 0);
        int empty = v.pattern(EMPTY, 0, 0);
        int named = v.pattern(ATTRIBUTE, 2, one);
        int any = v.pattern(ATTRIBUTE, 6, text);
        int ofEmpty = v.pattern(ATTRIBUTE, 6, empty);
        int ofAttribute = v.pattern(ATTRIBUTE, 6, any);
        int ofElement = v.pattern(ATTRIBUTE, 6, v.pattern(ELEMENT, 6, text));
        int ofGroup = v.pattern(ATTRIBUTE, 6, v.pattern(GROUP, one, text));
        int ofTwo = v.pattern(ATTRIBUTE, 6, v.pattern(INTERLEAVE, one, one));
        int ofMore = v.pattern(ATTRIBUTE, 6, v.pattern(MORE, one, 0));
        v.open(0);
        content("ATTRIBUTE, none", 0, v, any);
        v.attribute(2, 1);
        content("ATTRIBUTE with name and value", 1, v, named);
        content("ATTRIBUTE with any name", 1, v, any);
        content("ATTRIBUTE, its value is not nothing", 0, v, ofEmpty);
        content("ATTRIBUTE, its value is no attribute", 0, v, ofAttribute);
        content("ATTRIBUTE, its value is no element", 0, v, ofElement);
        content("ATTRIBUTE, its value by a group", 1, v, ofGroup);
        content("ATTRIBUTE, its value is one text", 0, v, ofTwo);
        content("ATTRIBUTE, its value by a repetition", 1, v, ofMore);
        v.text(1);
        content("ATTRIBUTE, no children", 0, v, any);
        v.clear();
        v.open(0);
        v.attribute(1, 1);
        content("ATTRIBUTE with another name", 0, v, named);
        v.attribute(2, 2);
        content("ATTRIBUTE, two of them", 0, v, any);
        v.clear();
        v.open(0);
        v.attribute(2, 2);
        content("ATTRIBUTE with another value", 0, v, named);
    }

    private static void definitions() {
        PatternValidator v = new PatternValidator();
        int meant = v.pattern(DEFINITION, 1, 0);
        int other = v.pattern(DEFINITION, 2, 0);
        int one = v.pattern(NUMBER, 1, 1);
        int two = v.pattern(NUMBER, 2, 2);
        int attribute = v.pattern(ATTRIBUTE, 0, meant);
        int withAttribute = v.pattern(GROUP, attribute, meant);
        v.open(0);
        v.attribute(0, 1);
        v.text(1);
        content("DEFINITION without a pattern", 0, v, withAttribute);
        v.define(1, other);
        content("DEFINITION of one without a pattern", 0, v, withAttribute);
        v.define(2, one);
        content("DEFINITION by another", 1, v, withAttribute);
        v.define(2, two);
        content("DEFINITION by another that changed", 0, v, withAttribute);
        v.define(1, one);
        content("DEFINITION with a later pattern", 1, v, withAttribute);
        definitionChain();
    }

    /** All four definitions behind one another, each used at depth 5: the deepest there is. */
    private static void definitionChain() {
        PatternValidator v = new PatternValidator();
        int one = v.pattern(NUMBER, 1, 1);
        int top = v.pattern(DEFINITION, 3, 0);
        for (int definition = 0; definition < 4; definition++) {
            int deep = definition == 0 ? one : v.pattern(DEFINITION, definition - 1, 0);
            for (int depth = 2; depth <= 5; depth++) {
                deep = v.pattern(MORE, deep, 0);
            }
            v.define(definition, deep);
        }
        int above = v.pattern(MORE, v.pattern(MORE, v.pattern(MORE, v.pattern(MORE, top, 0), 0), 0), 0);
        openWith(v, 1, 1, 1);
        content("DEFINITION, the deepest", 1, v, above);
        v.text(2);
        content("DEFINITION, the deepest, a stranger", 0, v, above);
        CHECK.refuses("DEFINITION, round the deepest", UNSUPPORTED, v, () -> v.define(0, above));
        CHECK.answers("DEFINITION, how long it goes right", 3, () -> v.longest(above, 0));
    }

    private static void recursiveDefinitions() {
        PatternValidator v = new PatternValidator();
        int self = v.pattern(DEFINITION, 0, 0);
        int one = v.pattern(NUMBER, 1, 1);
        int inside = v.pattern(CHOICE, one, v.pattern(MORE, self, 0));
        v.define(0, v.pattern(ELEMENT, 6, inside));
        v.open(0);
        v.open(1);
        v.open(2);
        v.text(1);
        v.close();
        v.open(3);
        v.open(4);
        v.text(1);
        CHECK.answers("recursion, four deep", 1, () -> v.matches(self, 0));
        v.close();
        v.open(5);
        CHECK.answers("recursion, an empty one", 0, () -> v.matches(self, 0));
        CHECK.answers("recursion, a node beside it", 1, () -> v.matches(self, 2));
        CHECK.answers("recursion, how long it goes right", 1, () -> v.longest(inside, 1));
        v.text(1);
        CHECK.answers("recursion, mended", 1, () -> v.matches(self, 0));
    }

    private static void promise9Matches() {
        PatternValidator v = new PatternValidator();
        CHECK.refuses("9: neither pattern nor node", MISSING, v, () -> v.matches(0, 0));
        int text = v.pattern(TEXT, 0, 0);
        int top = v.pattern(ELEMENT, 0, text);
        CHECK.refuses("9: no node", MISSING, v, () -> v.matches(top, 0));
        v.open(0);
        CHECK.refuses("9: no such pattern", MISSING, v, () -> v.matches(2, 0));
        CHECK.refuses("9: pattern -1", MISSING, v, () -> v.matches(-1, 0));
        CHECK.refuses("9: no such node", MISSING, v, () -> v.matches(top, 1));
        CHECK.refuses("9: node -1", MISSING, v, () -> v.matches(top, -1));
        CHECK.answers("9: an open one", 1, () -> v.matches(top, 0));
        CHECK.answers("9: the content is not the node", 0, () -> v.matches(text, 0));
        int more = v.pattern(MORE, top, 0);
        int both = v.pattern(INTERLEAVE, text, more);
        int twice = v.pattern(GROUP, top, top);
        int empty = v.pattern(EMPTY, 0, 0);
        CHECK.answers("9: a repetition", 1, () -> v.matches(more, 0));
        CHECK.answers("9: beside no text", 1, () -> v.matches(both, 0));
        CHECK.answers("9: not two", 0, () -> v.matches(twice, 0));
        CHECK.answers("9: not nothing", 0, () -> v.matches(empty, 0));
        v.text(3);
        CHECK.answers("9: with a text", 1, () -> v.matches(top, 0));
        v.open(0);
        CHECK.answers("9: the top as it is now", 0, () -> v.matches(top, 0));
        CHECK.answers("9: its child", 1, () -> v.matches(top, 1));
        v.attribute(1, 1);
        CHECK.answers("9: its child with an attribute", 0, () -> v.matches(top, 1));
        int marked = v.pattern(ELEMENT, 0, v.pattern(ATTRIBUTE, 1, text));
        CHECK.answers("9: the attributes are the element's own", 1, () -> v.matches(marked, 1));
        v.close();
        v.close();
        CHECK.answers("9: closed", 1, () -> v.matches(marked, 1));
    }

    private static void promise10Content() {
        PatternValidator v = new PatternValidator();
        CHECK.refuses("10: neither pattern nor node", MISSING, v, () -> v.content(0, 0));
        int one = v.pattern(NUMBER, 1, 1);
        int child = v.pattern(ELEMENT, 1, one);
        int both = v.pattern(GROUP, v.pattern(ATTRIBUTE, 0, one), child);
        v.open(0);
        CHECK.refuses("10: no such pattern", MISSING, v, () -> v.content(5, 0));
        CHECK.refuses("10: pattern -1", MISSING, v, () -> v.content(-1, 0));
        CHECK.refuses("10: no such node", MISSING, v, () -> v.content(one, 1));
        CHECK.refuses("10: node -1", MISSING, v, () -> v.content(one, -1));
        v.attribute(0, 1);
        v.open(1);
        v.text(1);
        CHECK.answers("10: attributes with children", 1, () -> v.content(both, 0));
        CHECK.answers("10: not the children alone", 0, () -> v.content(child, 0));
        CHECK.answers("10: of the child", 1, () -> v.content(one, 1));
        CHECK.answers("10: the child itself", 0, () -> v.content(child, 1));
        v.text(1);
        CHECK.answers("10: as it is now", 0, () -> v.content(both, 0));
    }

    private static void promise11Longest() {
        PatternValidator v = new PatternValidator();
        CHECK.refuses("11: neither pattern nor node", MISSING, v, () -> v.longest(0, 0));
        int one = v.pattern(NUMBER, 1, 1);
        int two = v.pattern(NUMBER, 2, 2);
        int pairs = v.pattern(MORE, v.pattern(GROUP, one, two), 0);
        int text = v.pattern(TEXT, 0, 0);
        int marked = v.pattern(GROUP, v.pattern(ATTRIBUTE, 0, one), text);
        int none = v.pattern(NONE, 0, 0);
        int empty = v.pattern(EMPTY, 0, 0);
        openWith(v, 1, 2, 1, 2, 1, 1);
        CHECK.refuses("11: no such pattern", MISSING, v, () -> v.longest(20, 0));
        CHECK.refuses("11: pattern -1", MISSING, v, () -> v.longest(-1, 0));
        CHECK.refuses("11: no such node", MISSING, v, () -> v.longest(one, 1));
        CHECK.refuses("11: node -1", MISSING, v, () -> v.longest(one, -1));
        CHECK.answers("11: the greatest", 4, () -> v.longest(pairs, 0));
        CHECK.answers("11: one", 1, () -> v.longest(one, 0));
        CHECK.answers("11: all", 6, () -> v.longest(text, 0));
        CHECK.answers("11: none of them", 0, () -> v.longest(empty, 0));
        CHECK.refuses("11: the first ones, not any", UNSUPPORTED, v, () -> v.longest(two, 0));
        CHECK.refuses("11: no number at all", UNSUPPORTED, v, () -> v.longest(none, 0));
        CHECK.refuses("11: an attribute is missing", UNSUPPORTED, v, () -> v.longest(marked, 0));
        v.clear();
        v.open(0);
        v.attribute(0, 1);
        CHECK.refuses("11: all the attributes", UNSUPPORTED, v, () -> v.longest(empty, 0));
        CHECK.answers("11: without children", 0, () -> v.longest(marked, 0));
        v.text(4);
        v.open(0);
        v.text(1);
        CHECK.answers("11: up to the element", 1, () -> v.longest(marked, 0));
        CHECK.answers("11: of the child", 1, () -> v.longest(one, 1));
    }

    private static void promise12Find() {
        PatternValidator v = new PatternValidator();
        CHECK.refuses("12: no such pattern", MISSING, v, () -> v.find(0));
        int text = v.pattern(TEXT, 0, 0);
        int any = v.pattern(ELEMENT, 6, text);
        int named = v.pattern(ELEMENT, 3, text);
        int parent = v.pattern(ELEMENT, 6, v.pattern(MORE, named, 0));
        CHECK.refuses("12: pattern -1", MISSING, v, () -> v.find(-1));
        CHECK.refuses("12: no node", UNSUPPORTED, v, () -> v.find(any));
        v.open(0);
        CHECK.answers("12: the top", 0, () -> v.find(any));
        CHECK.refuses("12: no such node", UNSUPPORTED, v, () -> v.find(named));
        CHECK.refuses("12: what a node holds is not it", UNSUPPORTED, v, () -> v.find(text));
        v.open(1);
        v.open(3);
        v.close();
        v.open(3);
        v.close();
        v.close();
        v.open(3);
        CHECK.answers("12: the least of three", 2, () -> v.find(named));
        CHECK.answers("12: the least of four", 2, () -> v.find(any));
        CHECK.answers("12: one with children", 1, () -> v.find(parent));
        v.clear();
        CHECK.refuses("12: taken away", UNSUPPORTED, v, () -> v.find(any));
    }

    private static void promise13Nullable() {
        PatternValidator v = new PatternValidator();
        CHECK.refuses("13: no such pattern", MISSING, v, () -> v.nullable(0));
        v.open(0);
        v.text(1);
        int empty = v.pattern(EMPTY, 0, 0);
        int none = v.pattern(NONE, 0, 0);
        int text = v.pattern(TEXT, 0, 0);
        int[][] asked = {
            {empty, 1}, {none, 0}, {text, 1}, {v.pattern(NUMBER, -9, 9), 0},
            {v.pattern(GROUP, empty, text), 1}, {v.pattern(GROUP, empty, none), 0}, {v.pattern(GROUP, none, text), 0},
            {v.pattern(INTERLEAVE, text, empty), 1}, {v.pattern(INTERLEAVE, text, none), 0},
            {v.pattern(INTERLEAVE, none, empty), 0},
            {v.pattern(CHOICE, none, empty), 1}, {v.pattern(CHOICE, text, none), 1}, {v.pattern(CHOICE, none, none), 0},
            {v.pattern(MORE, text, 0), 1}, {v.pattern(MORE, none, 0), 0},
            {v.pattern(ELEMENT, 6, empty), 0}, {v.pattern(ATTRIBUTE, 6, text), 0}, {v.pattern(DEFINITION, 0, 0), 0},
        };
        for (int[] row : asked) {
            CHECK.answers("13: pattern " + row[0], row[1], () -> v.nullable(row[0]));
        }
        v.define(0, text);
        CHECK.answers("13: a definition given", 1, () -> v.nullable(asked[asked.length - 1][0]));
        CHECK.refuses("13: pattern -1", MISSING, v, () -> v.nullable(-1));
        CHECK.refuses("13: pattern 18", MISSING, v, () -> v.nullable(18));
    }

    /** Every pattern matches a great deal, every node is full, and all 512 calls are used. */
    private static void fullestRun() {
        PatternValidator v = new PatternValidator();
        int text = v.pattern(TEXT, 0, 0);
        int attribute = v.pattern(ATTRIBUTE, 6, text);
        int self = v.pattern(ELEMENT, 6, v.pattern(DEFINITION, 0, 0));
        int item = v.pattern(CHOICE, attribute, v.pattern(CHOICE, text, self));
        int items = v.pattern(MORE, item, 0);
        v.define(0, items);
        int calls = 7;
        for (int last = v.count(0); last < 40; last++) {
            v.pattern(last % 2 == 0 ? INTERLEAVE : GROUP, item, text);
            calls++;
        }
        calls += fillDocument(v);
        for (; calls < 512; calls++) {
            CHECK.answers("the fullest document", 1, () -> v.matches(self, 0));
        }
    }

    /** 16 nodes, each with three attributes and six children; answers how many calls it took. */
    private static int fillDocument(PatternValidator v) {
        int calls = openFull(v);
        for (int i = 0; i < 3; i++) {
            calls += openFull(v);
            for (int k = 0; k < 4; k++) {
                calls += openFull(v) + closeFull(v, 0);
            }
            calls += closeFull(v, 4);
        }
        return calls + closeFull(v, 3);
    }

    private static int openFull(PatternValidator v) {
        v.open(0);
        for (int name = 0; name < 3; name++) {
            v.attribute(name, name);
        }
        return 4;
    }

    private static int closeFull(PatternValidator v, int had) {
        for (int i = had; i < 6; i++) {
            v.text(i);
        }
        v.close();
        return 7 - had;
    }
}
