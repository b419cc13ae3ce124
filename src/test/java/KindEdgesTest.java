/** The edges of what each kind of pattern matches: one test for each sentence. */
public final class KindEdgesTest {
    private static final int LEAST = Integer.MIN_VALUE;
    private static final int GREATEST = Integer.MAX_VALUE;

    private static final int EMPTY = 0;
    private static final int NONE = 1;
    private static final int TEXT = 2;
    private static final int NUMBER = 3;
    private static final int GROUP = 4;
    private static final int INTERLEAVE = 5;
    private static final int CHOICE = 6;
    private static final int MORE = 7;
    private static final int ELEMENT = 8;
    private static final int ATTRIBUTE = 9;
    private static final int DEFINITION = 10;

    private static final Check CHECK = new Check();

    private KindEdgesTest() {
    }

    public static void main(String[] args) {
        emptyHasNoAttributesAndNoChildren();
        noneIsNothing();
        textIsAnyNumberOfTexts();
        textHasNoElements();
        numberFromAToB();
        numberIsOneText();
        groupCutsAnywhere();
        groupKeepsTheOrder();
        attributesArePartedInAnyWay();
        interleavePartsInAnyWay();
        noChildIsInBothRows();
        choiceIsAOrB();
        choiceHasAttributesWithChildren();
        moreIsOneOrMore();
        moreOfWhatMatchesNothing();
        moreCutsIntoLongerRows();
        morePartsAttributes();
        moreHasAttributesWithItsOwnChildren();
        elementNames();
        elementIsOne();
        elementHasNoAttributes();
        elementIsNoAttribute();
        elementHasItsAttributesWithItsChildren();
        attributeNames();
        attributeIsOne();
        attributeHasNoChildren();
        attributeValueIsOneText();
        attributeValuesAtTheEdges();
        definitionIsNothingIfNoneWasGiven();
        definitionIsWhatItWasGiven();
        definitionInItsOwnElement();
        nodeIsARowOfItself();
        lastPatternOnTheFullestNode();
        oneMadeOfAllForty();
        CHECK.end();
    }

    /** A top with attributes 0, 1, .. of the value 1; of the children, e is an element and a digit a text. */
    private static void lay(PatternValidator v, int attributes, String children) {
        v.clear();
        v.open(0);
        for (int name = 0; name < attributes; name++) {
            v.attribute(name, 1);
        }
        for (char child : children.toCharArray()) {
            if (child == 'e') {
                v.open(0);
                v.close();
            } else {
                v.text(child - '0');
            }
        }
    }

    private static void content(String what, boolean due, PatternValidator v, int pattern) {
        CHECK.answers(what, due ? 1 : 0, () -> v.content(pattern, 0));
    }

    private static void emptyHasNoAttributesAndNoChildren() {
        PatternValidator v = new PatternValidator();
        int empty = v.pattern(EMPTY, 0, 0);
        String[] rows = {"", "0", "e", "000000", "eeeeee"};
        for (int attributes = 0; attributes <= 3; attributes++) {
            for (String row : rows) {
                lay(v, attributes, row);
                content("EMPTY, " + attributes + " with " + row, attributes == 0 && row.isEmpty(), v, empty);
            }
        }
    }

    private static void noneIsNothing() {
        PatternValidator v = new PatternValidator();
        int none = v.pattern(NONE, 0, 0);
        String[] rows = {"", "0", "e", "000000", "eeeeee"};
        for (int attributes = 0; attributes <= 3; attributes++) {
            for (String row : rows) {
                lay(v, attributes, row);
                content("NONE, " + attributes + " with " + row, false, v, none);
            }
        }
        CHECK.answers("NONE, no node", 0, () -> v.matches(none, 0));
    }

    private static void textIsAnyNumberOfTexts() {
        PatternValidator v = new PatternValidator();
        int text = v.pattern(TEXT, 0, 0);
        for (int attributes = 0; attributes <= 3; attributes++) {
            for (int texts = 0; texts <= 6; texts++) {
                lay(v, attributes, "012345".substring(0, texts));
                content("TEXT, " + attributes + " with " + texts + " texts", attributes == 0, v, text);
            }
        }
    }

    private static void textHasNoElements() {
        for (int row = 0; row < 64; row++) {
            StringBuilder children = new StringBuilder();
            for (int i = 0; i < 6; i++) {
                children.append((row >> i & 1) == 0 ? '1' : 'e');
            }
            PatternValidator v = new PatternValidator();
            int text = v.pattern(TEXT, 0, 0);
            lay(v, 0, children.toString());
            content("TEXT, " + children, row == 0, v, text);
        }
        PatternValidator v = new PatternValidator();
        int text = v.pattern(TEXT, 0, 0);
        lay(v, 0, "e");
        content("TEXT, an element alone", false, v, text);
    }

    private static void numberFromAToB() {
        int[][] ranges = {
            {0, 0}, {-1, 1}, {5, 6}, {6, 5}, {1, -1}, {LEAST, LEAST}, {GREATEST, GREATEST}, {LEAST, GREATEST},
            {GREATEST, LEAST}, {LEAST, -1}, {0, GREATEST}, {LEAST + 1, GREATEST - 1}, {GREATEST - 1, LEAST + 1},
        };
        int[] values = {
            LEAST, LEAST + 1, LEAST + 2, -2, -1, 0, 1, 2, 4, 5, 6, 7, GREATEST - 2, GREATEST - 1, GREATEST,
        };
        for (int[] range : ranges) {
            PatternValidator v = new PatternValidator();
            int number = v.pattern(NUMBER, range[0], range[1]);
            for (int value : values) {
                lay(v, 0, "");
                v.text(value);
                content("NUMBER " + range[0] + " to " + range[1] + ", " + value,
                        range[0] <= value && value <= range[1], v, number);
            }
        }
    }

    private static void numberIsOneText() {
        PatternValidator v = new PatternValidator();
        int number = v.pattern(NUMBER, LEAST, GREATEST);
        String[] rows = {"", "1", "e", "11", "1e", "e1", "111111"};
        for (int attributes = 0; attributes <= 3; attributes++) {
            for (String row : rows) {
                lay(v, attributes, row);
                content("NUMBER, " + attributes + " with " + row, attributes == 0 && row.equals("1"), v, number);
            }
        }
    }

    /** None or more of this number. */
    private static int any(PatternValidator v, int value) {
        int number = v.pattern(NUMBER, value, value);
        return v.pattern(CHOICE, v.pattern(EMPTY, 0, 0), v.pattern(MORE, number, 0));
    }

    private static void groupCutsAnywhere() {
        PatternValidator v = new PatternValidator();
        int ones = any(v, 1);
        int twos = any(v, 2);
        int group = v.pattern(GROUP, ones, twos);
        int interleave = v.pattern(INTERLEAVE, ones, twos);
        for (int children = 0; children <= 6; children++) {
            for (int first = 0; first <= children; first++) {
                String row = "111111".substring(0, first) + "222222".substring(first, children);
                lay(v, 0, row);
                content("GROUP, " + row, true, v, group);
                content("INTERLEAVE, " + row, true, v, interleave);
            }
        }
    }

    private static void groupKeepsTheOrder() {
        for (int row = 0; row < 64; row++) {
            PatternValidator v = new PatternValidator();
            int ones = any(v, 1);
            int twos = any(v, 2);
            int group = v.pattern(GROUP, ones, twos);
            int interleave = v.pattern(INTERLEAVE, ones, twos);
            StringBuilder children = new StringBuilder();
            for (int i = 0; i < 6; i++) {
                children.append((row >> i & 1) == 0 ? '1' : '2');
            }
            lay(v, 0, children.toString());
            content("GROUP, " + children, children.toString().matches("1*2*"), v, group);
            content("INTERLEAVE, " + children, true, v, interleave);
        }
    }

    /** A GROUP of the ATTRIBUTES whose bit is set. */
    private static int attributesOf(PatternValidator v, int set, int value) {
        int all = v.pattern(EMPTY, 0, 0);
        for (int name = 0; name < 3; name++) {
            if ((set >> name & 1) != 0) {
                all = v.pattern(GROUP, v.pattern(ATTRIBUTE, name, value), all);
            }
        }
        return all;
    }

    private static void attributesArePartedInAnyWay() {
        for (int has = 0; has < 8; has++) {
            for (int first = 0; first < 8; first++) {
                for (int second = 0; second < 8; second++) {
                    boolean due = (first & second) == 0 && (first | second) == has;
                    String what = " of the attributes " + first + " and " + second + ", there are " + has;
                    PatternValidator v = new PatternValidator();
                    int text = v.pattern(TEXT, 0, 0);
                    // Three attributes upon one another are of depth 5, so a definition stands for them.
                    v.define(0, attributesOf(v, first, text));
                    v.define(1, attributesOf(v, second, text));
                    int a = v.pattern(DEFINITION, 0, 0);
                    int b = v.pattern(DEFINITION, 1, 0);
                    v.open(0);
                    for (int name = 2; name >= 0; name--) {
                        if ((has >> name & 1) != 0) {
                            v.attribute(name, 0);
                        }
                    }
                    content("GROUP" + what, due, v, v.pattern(GROUP, a, b));
                    content("INTERLEAVE" + what, due, v, v.pattern(INTERLEAVE, a, b));
                    content("CHOICE" + what, first == has || second == has, v, v.pattern(CHOICE, a, b));
                }
            }
        }
    }

    /** A GROUP of the numbers first, .., last - 1, halved again and again so that it is not deep. */
    private static int numbers(PatternValidator v, int first, int last) {
        if (last - first < 2) {
            return first == last ? v.pattern(EMPTY, 0, 0) : v.pattern(NUMBER, first, first);
        }
        int middle = (first + last) / 2;
        return v.pattern(GROUP, numbers(v, first, middle), numbers(v, middle, last));
    }

    /** Children whose bit is set are 10, 11, .. in order, the others 20, 21, ..; or two of the first are swapped. */
    private static void layParted(PatternValidator v, int row, boolean swapped) {
        v.clear();
        v.open(0);
        int low = 10;
        int high = 20;
        for (int i = 0; i < 6; i++) {
            if ((row >> i & 1) == 0) {
                v.text(high);
                high++;
            } else {
                v.text(swapped && low < 12 ? 21 - low : low);
                low++;
            }
        }
    }

    private static void interleavePartsInAnyWay() {
        for (int row = 0; row < 64; row++) {
            int many = Integer.bitCount(row);
            PatternValidator v = new PatternValidator();
            int first = numbers(v, 10, 10 + many);
            int second = numbers(v, 20, 26 - many);
            int interleave = v.pattern(INTERLEAVE, first, second);
            int group = v.pattern(GROUP, first, second);
            int turned = v.pattern(INTERLEAVE, second, first);
            layParted(v, row, false);
            content("INTERLEAVE, parted by " + row, true, v, interleave);
            content("INTERLEAVE the other way round, parted by " + row, true, v, turned);
            content("GROUP, parted by " + row, row == (1 << many) - 1, v, group);
            if (many >= 2) {
                layParted(v, row, true);
                content("INTERLEAVE keeps the order, parted by " + row, false, v, interleave);
                content("the other way round too, parted by " + row, false, v, turned);
            }
        }
    }

    private static void noChildIsInBothRows() {
        for (int kind = GROUP; kind <= INTERLEAVE; kind++) {
            for (int before = 0; before <= 2; before++) {
                for (int ones = 0; ones <= 4; ones++) {
                    PatternValidator v = new PatternValidator();
                    int one = v.pattern(NUMBER, 1, 1);
                    int two = v.pattern(kind, one, one);
                    int behind = v.pattern(GROUP, any(v, 2), two);
                    int amidst = v.pattern(INTERLEAVE, two, any(v, 2));
                    String row = "22".substring(0, before) + "1111".substring(0, ones);
                    lay(v, 0, row);
                    content("kind " + kind + " behind others, " + row, ones == 2, v, behind);
                    content("kind " + kind + " amidst others, " + row, ones == 2, v, amidst);
                }
            }
            noneOfManyIsInBothRows(kind);
        }
    }

    private static void noneOfManyIsInBothRows(int kind) {
        for (int ones = 0; ones <= 6; ones++) {
            PatternValidator v = new PatternValidator();
            int one = v.pattern(NUMBER, 1, 1);
            int two = v.pattern(kind, one, one);
            int three = v.pattern(kind, two, one);
            int turned = v.pattern(kind, one, two);
            lay(v, 0, "111111".substring(0, ones));
            String what = "kind " + kind + ", " + ones + " children, ";
            content(what + "two and three", ones == 5, v, v.pattern(GROUP, two, three));
            content(what + "two and three turned", ones == 5, v, v.pattern(GROUP, two, turned));
            content(what + "three and three", ones == 6, v, v.pattern(INTERLEAVE, three, turned));
            content(what + "twos", ones > 0 && ones % 2 == 0, v, v.pattern(MORE, two, 0));
            content(what + "threes", ones > 0 && ones % 3 == 0, v, v.pattern(MORE, three, 0));
        }
    }

    private static void choiceIsAOrB() {
        PatternValidator v = new PatternValidator();
        int none = v.pattern(NONE, 0, 0);
        int one = v.pattern(NUMBER, 1, 1);
        lay(v, 0, "1");
        content("CHOICE, neither", false, v, v.pattern(CHOICE, none, none));
        content("CHOICE, a", true, v, v.pattern(CHOICE, one, none));
        content("CHOICE, b", true, v, v.pattern(CHOICE, none, one));
        content("CHOICE, both", true, v, v.pattern(CHOICE, one, one));
        lay(v, 0, "11");
        content("CHOICE, not one after the other", false, v, v.pattern(CHOICE, one, one));
        lay(v, 0, "");
        content("CHOICE, not nothing", false, v, v.pattern(CHOICE, one, one));
    }

    private static void choiceHasAttributesWithChildren() {
        PatternValidator v = new PatternValidator();
        int one = v.pattern(NUMBER, 1, 1);
        int attribute = v.pattern(ATTRIBUTE, 0, one);
        int both = v.pattern(GROUP, attribute, one);
        int either = v.pattern(CHOICE, attribute, one);
        int anyOfThem = v.pattern(CHOICE, both, either);
        for (int attributes = 0; attributes <= 2; attributes++) {
            for (int texts = 0; texts <= 2; texts++) {
                lay(v, attributes, "11".substring(0, texts));
                String what = ", " + attributes + " with " + texts;
                content("CHOICE of an attribute or a text" + what, attributes + texts == 1, v, either);
                content("CHOICE of both or either" + what,
                        attributes <= 1 && texts <= 1 && attributes + texts >= 1, v, anyOfThem);
            }
        }
    }

    private static void moreIsOneOrMore() {
        PatternValidator v = new PatternValidator();
        int one = v.pattern(NUMBER, 1, 1);
        int ones = v.pattern(MORE, one, 0);
        int again = v.pattern(MORE, ones, 0);
        for (int texts = 0; texts <= 6; texts++) {
            String row = "111111".substring(0, texts);
            lay(v, 0, row);
            content("MORE, " + texts, texts >= 1, v, ones);
            content("MORE of MORE, " + texts, texts >= 1, v, again);
            for (int wrong = 0; wrong < texts; wrong++) {
                lay(v, 0, row.substring(0, wrong) + "2" + row.substring(wrong + 1));
                content("MORE, " + texts + ", not number " + wrong, false, v, ones);
            }
        }
        lay(v, 0, "eeeeee");
        content("MORE elements, six", true, v, v.pattern(MORE, v.pattern(ELEMENT, 0, v.pattern(EMPTY, 0, 0)), 0));
    }

    private static void moreOfWhatMatchesNothing() {
        PatternValidator v = new PatternValidator();
        int empty = v.pattern(EMPTY, 0, 0);
        int one = v.pattern(NUMBER, 1, 1);
        int empties = v.pattern(MORE, empty, 0);
        int nones = v.pattern(MORE, v.pattern(NONE, 0, 0), 0);
        int optional = v.pattern(MORE, v.pattern(CHOICE, empty, one), 0);
        int texts = v.pattern(MORE, v.pattern(TEXT, 0, 0), 0);
        String[] rows = {"", "1", "111111", "2", "111112", "e", "1e"};
        for (int attributes = 0; attributes <= 3; attributes += 3) {
            for (String row : rows) {
                lay(v, attributes, row);
                String what = ", " + attributes + " with " + row;
                content("MORE of EMPTY" + what, attributes == 0 && row.isEmpty(), v, empties);
                content("MORE of NONE" + what, false, v, nones);
                content("MORE of one or nothing" + what, attributes == 0 && row.matches("1*"), v, optional);
                content("MORE of TEXT" + what, attributes == 0 && row.matches("[12]*"), v, texts);
            }
        }
    }

    private static void moreCutsIntoLongerRows() {
        PatternValidator v = new PatternValidator();
        int one = v.pattern(NUMBER, 1, 1);
        int two = v.pattern(NUMBER, 2, 2);
        int pair = v.pattern(GROUP, one, one);
        int triple = v.pattern(GROUP, pair, one);
        int pairs = v.pattern(MORE, pair, 0);
        int triples = v.pattern(MORE, triple, 0);
        int either = v.pattern(MORE, v.pattern(CHOICE, pair, triple), 0);
        for (int texts = 0; texts <= 6; texts++) {
            lay(v, 0, "111111".substring(0, texts));
            content("MORE pairs, " + texts, texts > 0 && texts % 2 == 0, v, pairs);
            content("MORE triples, " + texts, texts > 0 && texts % 3 == 0, v, triples);
            content("MORE pairs or triples, " + texts, texts >= 2, v, either);
        }
        int mixed = v.pattern(MORE, v.pattern(INTERLEAVE, one, two), 0);
        int grouped = v.pattern(MORE, v.pattern(GROUP, one, two), 0);
        String[] rows = {"12", "21", "1221", "2112", "1212", "1122", "121221", "122112", "112212"};
        for (String row : rows) {
            lay(v, 0, row);
            content("MORE interleaved pairs, " + row, row.matches("(12|21)+"), v, mixed);
            content("MORE grouped pairs, " + row, row.matches("(12)+"), v, grouped);
        }
    }

    private static void morePartsAttributes() {
        PatternValidator v = new PatternValidator();
        int one = v.pattern(NUMBER, 1, 1);
        int attribute = v.pattern(ATTRIBUTE, 6, one);
        int attributes = v.pattern(MORE, attribute, 0);
        int pairs = v.pattern(MORE, v.pattern(GROUP, attribute, attribute), 0);
        int first = v.pattern(MORE, v.pattern(ATTRIBUTE, 0, one), 0);
        int either = v.pattern(MORE, v.pattern(CHOICE, attribute, one), 0);
        for (int many = 0; many <= 3; many++) {
            for (int texts = 0; texts <= 6; texts++) {
                lay(v, many, "111111".substring(0, texts));
                String what = ", " + many + " with " + texts;
                content("MORE attributes" + what, many >= 1 && texts == 0, v, attributes);
                content("MORE pairs of attributes" + what, many == 2 && texts == 0, v, pairs);
                content("MORE of one attribute" + what, many == 1 && texts == 0, v, first);
                content("MORE attributes or texts" + what, many + texts >= 1, v, either);
            }
        }
    }

    private static void moreHasAttributesWithItsOwnChildren() {
        for (int many = 0; many <= 3; many++) {
            for (int texts = 0; texts <= 6; texts++) {
                PatternValidator v = new PatternValidator();
                int one = v.pattern(NUMBER, 1, 1);
                int attribute = v.pattern(ATTRIBUTE, 6, one);
                int each = v.pattern(MORE, v.pattern(GROUP, attribute, one), 0);
                int longer = v.pattern(MORE, v.pattern(GROUP, v.pattern(MORE, one, 0), attribute), 0);
                int twice = v.pattern(MORE, v.pattern(GROUP, v.pattern(GROUP, one, attribute), one), 0);
                lay(v, many, "111111".substring(0, texts));
                String what = ", " + many + " with " + texts;
                content("MORE, each an attribute and a text" + what, many >= 1 && texts == many, v, each);
                content("MORE, each an attribute and texts" + what, many >= 1 && texts >= many, v, longer);
                content("MORE, each an attribute and two texts" + what, many >= 1 && texts == 2 * many, v, twice);
            }
        }
        PatternValidator v = new PatternValidator();
        int one = v.pattern(NUMBER, 1, 1);
        int two = v.pattern(NUMBER, 2, 2);
        int low = v.pattern(GROUP, v.pattern(ATTRIBUTE, 0, one), one);
        int high = v.pattern(GROUP, v.pattern(ATTRIBUTE, 1, one), two);
        int either = v.pattern(MORE, v.pattern(CHOICE, low, high), 0);
        String[] rows = {"12", "21", "11", "22", "1", "2", "121", ""};
        for (String row : rows) {
            lay(v, 2, row);
            content("MORE, each attribute with its own text, " + row, row.matches("12|21"), v, either);
        }
    }

    private static void elementNames() {
        for (int name = 0; name <= 5; name++) {
            PatternValidator v = new PatternValidator();
            int empty = v.pattern(EMPTY, 0, 0);
            v.open(0);
            v.open(name);
            for (int asked = 0; asked <= 6; asked++) {
                int element = v.pattern(ELEMENT, asked, empty);
                boolean due = asked == name || asked == 6;
                content("ELEMENT " + asked + ", there is " + name, due, v, element);
                CHECK.answers("as a node", due ? 1 : 0, () -> v.matches(element, 1));
            }
        }
    }

    private static void elementIsOne() {
        PatternValidator v = new PatternValidator();
        int element = v.pattern(ELEMENT, 0, v.pattern(EMPTY, 0, 0));
        String[] rows = {"", "e", "ee", "eeeeee", "1", "e1", "1e", "111111"};
        for (String row : rows) {
            lay(v, 0, row);
            content("ELEMENT, " + row, row.equals("e"), v, element);
        }
    }

    private static void elementHasNoAttributes() {
        PatternValidator v = new PatternValidator();
        int element = v.pattern(ELEMENT, 6, v.pattern(EMPTY, 0, 0));
        for (int attributes = 0; attributes <= 3; attributes++) {
            lay(v, attributes, "e");
            content("ELEMENT beside " + attributes + " attributes", attributes == 0, v, element);
        }
    }

    private static void elementIsNoAttribute() {
        PatternValidator v = new PatternValidator();
        int text = v.pattern(TEXT, 0, 0);
        int one = v.pattern(NUMBER, 1, 1);
        for (int name = 0; name <= 6; name++) {
            lay(v, 1, "");
            content("ELEMENT " + name + ", an attribute of such a value", false, v, v.pattern(ELEMENT, name, text));
            content("ELEMENT " + name + ", an attribute of this value", false, v, v.pattern(ELEMENT, name, one));
            lay(v, 0, "1");
            content("ELEMENT " + name + ", such a text", false, v, v.pattern(ELEMENT, name, text));
            content("ATTRIBUTE " + name + ", such a text", false, v, v.pattern(ATTRIBUTE, name, text));
        }
    }

    private static void elementHasItsAttributesWithItsChildren() {
        PatternValidator v = new PatternValidator();
        int one = v.pattern(NUMBER, 1, 1);
        int attributes = v.pattern(MORE, v.pattern(ATTRIBUTE, 6, one), 0);
        int full = v.pattern(ELEMENT, 2, v.pattern(GROUP, attributes, v.pattern(MORE, one, 0)));
        int[][] held = {{0, 0}, {0, 1}, {1, 0}, {1, 1}, {3, 1}, {1, 6}, {3, 6}};
        for (int[] many : held) {
            v.clear();
            v.open(0);
            v.open(2);
            for (int name = 0; name < many[0]; name++) {
                v.attribute(name, 1);
            }
            for (int i = 0; i < many[1]; i++) {
                v.text(1);
            }
            boolean due = many[0] >= 1 && many[1] >= 1;
            content("ELEMENT, " + many[0] + " attributes with " + many[1] + " texts", due, v, full);
            CHECK.answers("as a node", due ? 1 : 0, () -> v.matches(full, 1));
        }
    }

    private static void attributeNames() {
        for (int name = 0; name <= 5; name++) {
            PatternValidator v = new PatternValidator();
            int text = v.pattern(TEXT, 0, 0);
            v.open(0);
            v.attribute(name, 0);
            for (int asked = 0; asked <= 6; asked++) {
                content("ATTRIBUTE " + asked + ", there is " + name, asked == name || asked == 6, v,
                        v.pattern(ATTRIBUTE, asked, text));
            }
        }
    }

    private static void attributeIsOne() {
        PatternValidator v = new PatternValidator();
        int text = v.pattern(TEXT, 0, 0);
        int any = v.pattern(ATTRIBUTE, 6, text);
        int first = v.pattern(ATTRIBUTE, 0, text);
        for (int attributes = 0; attributes <= 3; attributes++) {
            lay(v, attributes, "");
            content("ATTRIBUTE of any name, " + attributes, attributes == 1, v, any);
            content("ATTRIBUTE 0, " + attributes, attributes == 1, v, first);
        }
    }

    private static void attributeHasNoChildren() {
        PatternValidator v = new PatternValidator();
        int any = v.pattern(ATTRIBUTE, 6, v.pattern(TEXT, 0, 0));
        String[] rows = {"", "1", "e", "111111", "eeeeee"};
        for (int attributes = 0; attributes <= 1; attributes++) {
            for (String row : rows) {
                lay(v, attributes, row);
                content("ATTRIBUTE, " + attributes + " with " + row, attributes == 1 && row.isEmpty(), v, any);
            }
        }
    }

    private static void attributeValueIsOneText() {
        PatternValidator v = new PatternValidator();
        int empty = v.pattern(EMPTY, 0, 0);
        int none = v.pattern(NONE, 0, 0);
        int text = v.pattern(TEXT, 0, 0);
        int one = v.pattern(NUMBER, 1, 1);
        int given = v.pattern(DEFINITION, 0, 0);
        int missing = v.pattern(DEFINITION, 1, 0);
        v.define(0, one);
        int[][] values = {
            {empty, 0}, {none, 0}, {text, 1}, {one, 1}, {v.pattern(NUMBER, 2, 2), 0},
            {v.pattern(GROUP, one, empty), 1}, {v.pattern(GROUP, text, one), 1}, {v.pattern(GROUP, one, one), 0},
            {v.pattern(INTERLEAVE, empty, one), 1}, {v.pattern(INTERLEAVE, one, one), 0},
            {v.pattern(CHOICE, none, one), 1}, {v.pattern(CHOICE, none, empty), 0},
            {v.pattern(MORE, one, 0), 1}, {v.pattern(MORE, empty, 0), 0},
            {v.pattern(ELEMENT, 6, text), 0}, {v.pattern(ATTRIBUTE, 6, text), 0}, {given, 1}, {missing, 0},
        };
        v.open(0);
        v.attribute(3, 1);
        for (int[] value : values) {
            content("ATTRIBUTE, its value by pattern " + value[0], value[1] == 1, v, v.pattern(ATTRIBUTE, 3, value[0]));
        }
    }

    private static void attributeValuesAtTheEdges() {
        int[] values = {LEAST, -1, 0, 1, GREATEST};
        for (int low : values) {
            for (int high : values) {
                PatternValidator v = new PatternValidator();
                int attribute = v.pattern(ATTRIBUTE, 0, v.pattern(NUMBER, low, high));
                for (int value : values) {
                    v.clear();
                    v.open(0);
                    v.attribute(0, value);
                    content("ATTRIBUTE from " + low + " to " + high + ", " + value, low <= value && value <= high, v,
                            attribute);
                }
            }
        }
    }

    private static void definitionIsNothingIfNoneWasGiven() {
        String[] rows = {"", "1", "e", "111111"};
        for (int definition = 0; definition <= 3; definition++) {
            PatternValidator v = new PatternValidator();
            int meant = v.pattern(DEFINITION, definition, 0);
            int more = v.pattern(MORE, meant, 0);
            int element = v.pattern(ELEMENT, 6, meant);
            int choice = v.pattern(CHOICE, meant, v.pattern(EMPTY, 0, 0));
            CHECK.answers("DEFINITION " + definition + " not given, nullable", 0, () -> v.nullable(meant));
            for (int attributes = 0; attributes <= 3; attributes += 3) {
                for (String row : rows) {
                    lay(v, attributes, row);
                    String what = "DEFINITION " + definition + " not given, " + attributes + " with " + row;
                    content(what, false, v, meant);
                    content(what + ", MORE", false, v, more);
                    content(what + ", the content of an ELEMENT", false, v, element);
                    content(what + ", or EMPTY", attributes == 0 && row.isEmpty(), v, choice);
                }
            }
        }
    }

    private static void definitionIsWhatItWasGiven() {
        PatternValidator v = new PatternValidator();
        int[] meant = new int[4];
        for (int i = 0; i <= 3; i++) {
            meant[i] = v.pattern(DEFINITION, i, 0);
            v.define(i, v.pattern(NUMBER, i, i));
        }
        for (int value = 0; value <= 3; value++) {
            lay(v, 0, String.valueOf(value));
            for (int i = 0; i <= 3; i++) {
                content("DEFINITION " + i + ", the number " + value, i == value, v, meant[i]);
            }
        }
        int attribute = v.pattern(ATTRIBUTE, 0, meant[1]);
        v.define(2, attribute);
        lay(v, 1, "");
        content("DEFINITION of an attribute", true, v, meant[2]);
        v.define(1, v.pattern(NUMBER, 2, 2));
        content("DEFINITION of an attribute of another value", false, v, meant[2]);
    }

    private static void definitionInItsOwnElement() {
        for (int deep = 1; deep <= 4; deep++) {
            PatternValidator v = new PatternValidator();
            int meant = v.pattern(DEFINITION, 0, 0);
            int nested = v.pattern(ELEMENT, 1, v.pattern(CHOICE, v.pattern(EMPTY, 0, 0), meant));
            v.define(0, nested);
            for (int i = 0; i < deep; i++) {
                v.open(1);
            }
            for (int i = 0; i < deep; i++) {
                int node = i;
                CHECK.answers(deep + " nodes in one another, node " + i, 1, () -> v.matches(meant, node));
            }
            v.text(0);
            for (int i = 0; i < deep; i++) {
                int node = i;
                CHECK.answers("a text in the last of " + deep + ", node " + i, 0, () -> v.matches(meant, node));
            }
        }
    }

    private static void nodeIsARowOfItself() {
        PatternValidator v = new PatternValidator();
        int text = v.pattern(TEXT, 0, 0);
        int attribute = v.pattern(ATTRIBUTE, 0, text);
        int inside = v.pattern(GROUP, attribute, text);
        int element = v.pattern(ELEMENT, 3, inside);
        int[][] due = {
            {text, 0}, {attribute, 0}, {inside, 0}, {element, 1}, {v.pattern(EMPTY, 0, 0), 0},
            {v.pattern(GROUP, attribute, element), 0}, {v.pattern(GROUP, element, text), 1},
            {v.pattern(GROUP, text, element), 1}, {v.pattern(GROUP, element, element), 0},
            {v.pattern(INTERLEAVE, text, element), 1}, {v.pattern(INTERLEAVE, element, element), 0},
            {v.pattern(CHOICE, text, element), 1}, {v.pattern(MORE, element, 0), 1},
            {v.pattern(ELEMENT, 6, element), 0}, {v.pattern(NUMBER, LEAST, GREATEST), 0},
        };
        v.open(0);
        v.open(3);
        v.close();
        v.open(3);
        v.attribute(0, 1);
        v.text(5);
        v.close();
        v.text(5);
        for (int[] one : due) {
            CHECK.answers("pattern " + one[0] + " matches the node", one[1], () -> v.matches(one[0], 2));
        }
    }

    /** 39 patterns; 6 is a DEFINITION of three attributes with texts, 7 is EMPTY, those from 8 on are NONE. */
    private static void allButOne(PatternValidator v) {
        int text = v.pattern(TEXT, 0, 0);
        v.pattern(NUMBER, LEAST, GREATEST);
        int attribute = v.pattern(ATTRIBUTE, 6, text);
        int two = v.pattern(GROUP, attribute, attribute);
        int three = v.pattern(GROUP, two, attribute);
        v.define(3, v.pattern(GROUP, three, text));
        v.pattern(DEFINITION, 3, 0);
        v.pattern(EMPTY, 0, 0);
        for (int i = 8; i < 39; i++) {
            v.pattern(NONE, 0, 0);
        }
    }

    private static void lastPatternOnTheFullestNode() {
        int[][] last = {
            {EMPTY, 0, 0, 0}, {NONE, 0, 0, 0}, {TEXT, 0, 0, 0}, {NUMBER, LEAST, GREATEST, 0},
            {GROUP, 6, 7, 1}, {GROUP, 7, 6, 1}, {GROUP, 6, 6, 0}, {GROUP, 6, 8, 0},
            {INTERLEAVE, 6, 7, 1}, {INTERLEAVE, 6, 0, 1}, {INTERLEAVE, 6, 6, 0}, {INTERLEAVE, 8, 6, 0},
            {CHOICE, 6, 8, 1}, {CHOICE, 38, 6, 1}, {CHOICE, 7, 0, 0},
            {MORE, 6, 0, 1}, {MORE, 2, 0, 0}, {ELEMENT, 6, 6, 0}, {ATTRIBUTE, 6, 0, 0},
            {DEFINITION, 3, 0, 1}, {DEFINITION, 0, 0, 0},
        };
        for (int[] one : last) {
            PatternValidator v = new PatternValidator();
            allButOne(v);
            CHECK.answers("the 40th", 39, () -> v.pattern(one[0], one[1], one[2]));
            lay(v, 3, "111111");
            content("the 40th of kind " + one[0] + " on the fullest node", one[3] == 1, v, 39);
            content("the 39th is still NONE", false, v, 38);
            content("the one given is still the same", true, v, 5);
            CHECK.answers("the fullest node itself", one[0] == ELEMENT ? 1 : 0, () -> v.matches(39, 0));
        }
    }

    /** A CHOICE of the numbers from low to high - 1, which are a power of two, halved again and again. */
    private static int eitherOf(PatternValidator v, int low, int high) {
        if (high - low == 1) {
            return v.pattern(NUMBER, low, low);
        }
        int middle = (low + high) / 2;
        int first = eitherOf(v, low, middle);
        return v.pattern(CHOICE, first, eitherOf(v, middle, high));
    }

    /** 15 patterns of eight numbers, a second time for the content of elements, and ten more on the way. */
    private static void oneMadeOfAllForty() {
        PatternValidator v = new PatternValidator();
        v.define(0, eitherOf(v, 0, 8));
        int inside = eitherOf(v, 10, 18);
        int element = v.pattern(ELEMENT, 6, inside);
        v.define(1, element);
        int elements = v.pattern(MORE, v.pattern(DEFINITION, 1, 0), 0);
        int texts = v.pattern(MORE, v.pattern(DEFINITION, 0, 0), 0);
        int attribute = v.pattern(ATTRIBUTE, 6, v.pattern(TEXT, 0, 0));
        int both = v.pattern(INTERLEAVE, elements, texts);
        int all = v.pattern(GROUP, v.pattern(MORE, attribute, 0), both);
        CHECK.answers("all 40 are part of the last", 39, () -> all);
        v.open(0);
        v.attribute(5, GREATEST);
        v.text(0);
        v.open(0);
        v.text(10);
        v.close();
        v.text(7);
        v.open(5);
        v.text(17);
        content("one made of all 40", true, v, all);
        v.text(17);
        content("one made of all 40, two texts in an element", false, v, all);
        CHECK.answers("but it goes right that far", 3, () -> v.longest(all, 0));
    }
}
