import java.util.NoSuchElementException;

/** The edges that the document names for matches, content, longest, find and nullable: a test for each sentence. */
public final class AskingEdgesTest {
    /** matches, content or longest. */
    private interface OfNode {
        int ask(PatternValidator v, int pattern, int node);
    }

    private static final Class<NoSuchElementException> MISSING = NoSuchElementException.class;
    private static final Class<UnsupportedOperationException> UNSUPPORTED = UnsupportedOperationException.class;

    private static final int LEAST = Integer.MIN_VALUE;
    private static final int GREATEST = Integer.MAX_VALUE;

    private static final int EMPTY = 0;
    private static final int NONE = 1;
    private static final int TEXT = 2;
    private static final int NUMBER = 3;
    private static final int GROUP = 4;
    private static final int INTERLEAVE = 5;
    private static final int CHOICE = 6;
    private static final int MORE = 7;
    private static final int ELEMENT = 8;
    private static final int ATTRIBUTE = 9;
    private static final int DEFINITION = 10;

    private static final String[] CALLS = {"matches", "content", "longest"};
    private static final OfNode[] ASKED = {
        PatternValidator::matches, PatternValidator::content, PatternValidator::longest,
    };

    private static final Check CHECK = new Check();
    private static final Twins TWINS = new Twins(CHECK);

    private AskingEdgesTest() {
    }

    public static void main(String[] args) {
        noSuchPattern();
        noSuchNode();
        noDocument();
        neitherPatternNorNode();
        lastPatternAndLastNode();
        matchesOpenOnesToo();
        matchesWhileItGrows();
        contentOfAttributesWithChildren();
        contentOfNothing();
        contentOfTheFullest();
        longestFromNoneToSix();
        longestIsTheGreatest();
        longestOfTheFirstChildren();
        longestWithAllAttributes();
        longestThereIsNone();
        longestOrderOfTesting();
        findNoSuchPattern();
        findTheLeast();
        findTheLast();
        findThereIsNone();
        findOrderOfTesting();
        nullableNoSuchPattern();
        nullableOfEachKind();
        nullableWhateverTheDocument();
        askingChangesNothing();
        lastOfAllCalls();
        CHECK.end();
    }

    /** Two patterns and a document of two nodes. */
    private static void twoAndTwo(PatternValidator v) {
        v.pattern(TEXT, 0, 0);
        v.pattern(ELEMENT, 6, 0);
        v.open(0);
        v.attribute(0, 0);
        v.open(1);
        v.text(1);
    }

    private static void noSuchPattern() {
        int[] wrong = {LEAST, -1, 2, 39, 40, GREATEST};
        for (int i = 0; i < ASKED.length; i++) {
            OfNode asked = ASKED[i];
            for (int pattern : wrong) {
                for (int k = 0; k <= 1; k++) {
                    int node = k;
                    TWINS.refuses(CALLS[i] + ", pattern " + pattern + ", node " + node, MISSING,
                            AskingEdgesTest::twoAndTwo, v -> asked.ask(v, pattern, node));
                }
            }
            TWINS.refuses(CALLS[i] + ", no pattern was made", MISSING, v -> v.open(0), v -> asked.ask(v, 0, 0));
        }
    }

    private static void noSuchNode() {
        int[] wrong = {LEAST, -1, 2, 15, 16, GREATEST};
        for (int i = 0; i < ASKED.length; i++) {
            OfNode asked = ASKED[i];
            for (int node : wrong) {
                for (int k = 0; k <= 1; k++) {
                    int pattern = k;
                    TWINS.refuses(CALLS[i] + ", pattern " + pattern + ", node " + node, MISSING,
                            AskingEdgesTest::twoAndTwo, v -> asked.ask(v, pattern, node));
                }
            }
            TWINS.refuses(CALLS[i] + ", the number of a text", MISSING, v -> {
                v.pattern(TEXT, 0, 0);
                v.open(0);
                v.text(0);
            }, v -> asked.ask(v, 0, 1));
        }
    }

    private static void noDocument() {
        for (int i = 0; i < ASKED.length; i++) {
            OfNode asked = ASKED[i];
            TWINS.refuses(CALLS[i] + ", there was never a document", MISSING, v -> v.pattern(TEXT, 0, 0),
                    v -> asked.ask(v, 0, 0));
            for (int k = 0; k <= 1; k++) {
                int node = k;
                TWINS.refuses(CALLS[i] + ", the document was taken away, node " + k, MISSING, v -> {
                    twoAndTwo(v);
                    v.clear();
                }, v -> asked.ask(v, 0, node));
            }
        }
    }

    private static void neitherPatternNorNode() {
        int[] wrong = {LEAST, -1, 2, GREATEST};
        for (int i = 0; i < ASKED.length; i++) {
            OfNode asked = ASKED[i];
            TWINS.refuses(CALLS[i] + " of a new one", MISSING, v -> { }, v -> asked.ask(v, 0, 0));
            for (int pattern : wrong) {
                for (int node : wrong) {
                    TWINS.refuses(CALLS[i] + ", pattern " + pattern + ", node " + node, MISSING,
                            AskingEdgesTest::twoAndTwo, v -> asked.ask(v, pattern, node));
                }
            }
        }
    }

    /** The top with two elements of six children each, and one with none that stays open: 16 nodes. */
    private static void sixteenNodes(PatternValidator v, int name) {
        v.open(name);
        for (int i = 0; i < 2; i++) {
            v.open(name);
            for (int k = 0; k < 6; k++) {
                v.open(name);
                v.close();
            }
            v.close();
        }
        v.open(name);
    }

    private static void lastPatternAndLastNode() {
        PatternValidator v = new PatternValidator();
        v.pattern(EMPTY, 0, 0);
        for (int i = 1; i < 38; i++) {
            v.pattern(NONE, 0, 0);
        }
        v.pattern(ELEMENT, 0, 0);
        v.pattern(GROUP, 38, 0);
        sixteenNodes(v, 0);
        CHECK.answers("the first pattern, the first node", 0, () -> v.matches(0, 0));
        CHECK.answers("the first pattern, the last node", 1, () -> v.content(0, 15));
        CHECK.answers("the last pattern, the last node", 1, () -> v.matches(39, 15));
        CHECK.answers("the last pattern, the content of the last node", 0, () -> v.content(39, 15));
        CHECK.answers("the last pattern, the first node", 0, () -> v.matches(39, 0));
        CHECK.answers("longest of the last node", 0, () -> v.longest(0, 15));
        v.text(0);
        CHECK.answers("longest of the last node with a text", 0, () -> v.longest(0, 15));
        CHECK.answers("it is not the same then", 0, () -> v.matches(39, 15));
        CHECK.answers("the last pattern is found", 2, () -> v.find(39));
        CHECK.answers("the last pattern is not nullable", 0, () -> v.nullable(39));
        CHECK.refuses("the 41st pattern", MISSING, v, () -> v.matches(40, 15));
        CHECK.refuses("the 17th node", MISSING, v, () -> v.matches(39, 16));
        CHECK.refuses("the 17th node, content", MISSING, v, () -> v.content(39, 16));
        CHECK.refuses("the 17th node, longest", MISSING, v, () -> v.longest(0, 16));
    }

    private static void matchesOpenOnesToo() {
        PatternValidator v = new PatternValidator();
        int text = v.pattern(TEXT, 0, 0);
        int inner = v.pattern(ELEMENT, 1, text);
        int outer = v.pattern(ELEMENT, 0, inner);
        v.open(0);
        v.open(1);
        CHECK.answers("both are open, the outer", 1, () -> v.matches(outer, 0));
        CHECK.answers("both are open, the inner", 1, () -> v.matches(inner, 1));
        v.close();
        CHECK.answers("the inner is closed, the outer", 1, () -> v.matches(outer, 0));
        CHECK.answers("the inner is closed, the inner", 1, () -> v.matches(inner, 1));
        v.close();
        CHECK.answers("both are closed, the outer", 1, () -> v.matches(outer, 0));
        CHECK.answers("both are closed, the inner", 1, () -> v.matches(inner, 1));
    }

    private static void matchesWhileItGrows() {
        PatternValidator v = new PatternValidator();
        int empty = v.pattern(EMPTY, 0, 0);
        int one = v.pattern(NUMBER, 1, 1);
        int attribute = v.pattern(ATTRIBUTE, 0, one);
        int[] stages = {
            v.pattern(ELEMENT, 0, empty), v.pattern(ELEMENT, 0, attribute),
            v.pattern(ELEMENT, 0, v.pattern(GROUP, attribute, one)),
            v.pattern(ELEMENT, 0, v.pattern(GROUP, attribute, v.pattern(GROUP, one, v.pattern(ELEMENT, 1, empty)))),
        };
        for (int stage = 0; stage < 4; stage++) {
            Check.told(nextStep(v, stage));
            for (int i = 0; i < 4; i++) {
                int pattern = stages[i];
                CHECK.answers("stage " + stage + ", asked for " + i, i == stage ? 1 : 0, () -> v.matches(pattern, 0));
            }
        }
    }

    private static Check.Call nextStep(PatternValidator v, int stage) {
        switch (stage) {
            case 0:
                return () -> v.open(0);
            case 1:
                return () -> v.attribute(0, 1);
            case 2:
                return () -> v.text(1);
            default:
                return () -> v.open(1);
        }
    }

    private static void contentOfAttributesWithChildren() {
        PatternValidator v = new PatternValidator();
        int one = v.pattern(NUMBER, 1, 1);
        int attribute = v.pattern(ATTRIBUTE, 0, one);
        int both = v.pattern(GROUP, attribute, one);
        int node = v.pattern(ELEMENT, 0, both);
        v.open(0);
        v.attribute(0, 1);
        v.text(1);
        CHECK.answers("both", 1, () -> v.content(both, 0));
        CHECK.answers("the attribute alone", 0, () -> v.content(attribute, 0));
        CHECK.answers("the text alone", 0, () -> v.content(one, 0));
        CHECK.answers("the node itself is not its content", 0, () -> v.content(node, 0));
        CHECK.answers("nor is the content the node", 0, () -> v.matches(both, 0));
    }

    private static void contentOfNothing() {
        PatternValidator v = new PatternValidator();
        int[] patterns = {
            v.pattern(EMPTY, 0, 0), v.pattern(NONE, 0, 0), v.pattern(TEXT, 0, 0), v.pattern(NUMBER, 0, 0),
        };
        int[] due = {1, 0, 1, 0};
        v.open(0);
        for (int i = 0; i < patterns.length; i++) {
            int pattern = patterns[i];
            CHECK.answers("content of an empty one, kind " + i, due[i], () -> v.content(pattern, 0));
        }
    }

    private static void contentOfTheFullest() {
        PatternValidator v = new PatternValidator();
        int text = v.pattern(TEXT, 0, 0);
        int attribute = v.pattern(ATTRIBUTE, 6, text);
        int number = v.pattern(NUMBER, LEAST, GREATEST);
        int three = v.pattern(GROUP, v.pattern(GROUP, attribute, attribute), attribute);
        int two = v.pattern(GROUP, number, number);
        int four = v.pattern(GROUP, two, two);
        int six = v.pattern(GROUP, four, two);
        v.define(0, three);
        v.define(1, six);
        v.define(2, v.pattern(GROUP, four, number));
        int threeMeant = v.pattern(DEFINITION, 0, 0);
        int full = v.pattern(GROUP, threeMeant, v.pattern(DEFINITION, 1, 0));
        int five = v.pattern(GROUP, threeMeant, v.pattern(DEFINITION, 2, 0));
        int fewer = v.pattern(GROUP, v.pattern(GROUP, attribute, attribute), v.pattern(DEFINITION, 1, 0));
        v.open(0);
        for (int name = 3; name <= 5; name++) {
            v.attribute(name, LEAST);
        }
        for (int i = 0; i < 6; i++) {
            CHECK.answers("not all six yet", 0, () -> v.content(full, 0));
            v.text(GREATEST);
        }
        CHECK.answers("three attributes with six children", 1, () -> v.content(full, 0));
        CHECK.answers("three attributes with five children", 0, () -> v.content(five, 0));
        CHECK.answers("two attributes with six children", 0, () -> v.content(fewer, 0));
        CHECK.answers("the longest of the fullest", 6, () -> v.longest(full, 0));
        CHECK.answers("the longest but one", 5, () -> v.longest(five, 0));
        CHECK.refuses("the longest with two attributes", UNSUPPORTED, v, () -> v.longest(fewer, 0));
    }

    private static void longestFromNoneToSix() {
        for (int children = 0; children <= 6; children++) {
            PatternValidator v = new PatternValidator();
            int one = v.pattern(NUMBER, 1, 1);
            int[] exactly = new int[7];
            exactly[0] = v.pattern(EMPTY, 0, 0);
            exactly[1] = one;
            exactly[2] = v.pattern(GROUP, one, one);
            for (int i = 3; i <= 6; i++) {
                exactly[i] = v.pattern(GROUP, exactly[i / 2], exactly[i - i / 2]);
            }
            v.open(0);
            for (int i = 0; i < children; i++) {
                v.text(1);
            }
            for (int i = 0; i <= 6; i++) {
                int pattern = exactly[i];
                String what = "longest, " + i + " of " + children;
                if (i <= children) {
                    CHECK.answers(what, i, () -> v.longest(pattern, 0));
                } else {
                    CHECK.refuses(what, UNSUPPORTED, v, () -> v.longest(pattern, 0));
                }
            }
            int texts = v.pattern(TEXT, 0, 0);
            CHECK.answers("longest, all of " + children, children, () -> v.longest(texts, 0));
        }
    }

    private static void longestIsTheGreatest() {
        PatternValidator v = new PatternValidator();
        int one = v.pattern(NUMBER, 1, 1);
        int two = v.pattern(GROUP, one, one);
        int four = v.pattern(GROUP, two, two);
        int empty = v.pattern(EMPTY, 0, 0);
        int pairs = v.pattern(MORE, two, 0);
        int noneOrFour = v.pattern(CHOICE, empty, four);
        int fourOrOne = v.pattern(CHOICE, four, one);
        v.open(0);
        int[] byPairs = {-1, -1, 2, 2, 4, 4, 6};
        int[] byNoneOrFour = {0, 0, 0, 0, 4, 4, 4};
        int[] byFourOrOne = {-1, 1, 1, 1, 4, 4, 4};
        for (int children = 0; children <= 6; children++) {
            longest("longest of pairs, " + children, byPairs[children], v, pairs);
            longest("longest of none or four, " + children, byNoneOrFour[children], v, noneOrFour);
            longest("longest of four or one, " + children, byFourOrOne[children], v, fourOrOne);
            Check.told(() -> v.text(1));
        }
    }

    /** -1: there is none. */
    private static void longest(String what, int due, PatternValidator v, int pattern) {
        if (due == -1) {
            CHECK.refuses(what, UNSUPPORTED, v, () -> v.longest(pattern, 0));
        } else {
            CHECK.answers(what, due, () -> v.longest(pattern, 0));
        }
    }

    private static void longestOfTheFirstChildren() {
        for (int wrong = 0; wrong < 6; wrong++) {
            PatternValidator v = new PatternValidator();
            int one = v.pattern(NUMBER, 1, 1);
            int ones = v.pattern(MORE, one, 0);
            int optional = v.pattern(CHOICE, v.pattern(EMPTY, 0, 0), ones);
            int empty = v.pattern(EMPTY, 0, 0);
            int element = v.pattern(ELEMENT, 6, empty);
            int upToElement = v.pattern(GROUP, optional, element);
            v.open(0);
            for (int i = 0; i < 6; i++) {
                if (i == wrong) {
                    v.open(0);
                    v.close();
                } else {
                    v.text(1);
                }
            }
            String what = "the first ones before an element at " + wrong;
            longest(what, wrong == 0 ? -1 : wrong, v, ones);
            longest(what + ", or none", wrong, v, optional);
            longest(what + ", with it", wrong + 1, v, upToElement);
            longest(what + ", none of them", 0, v, empty);
            longest(what + ", the first alone", wrong == 0 ? -1 : 1, v, one);
        }
    }

    private static void longestWithAllAttributes() {
        for (int attributes = 0; attributes <= 3; attributes++) {
            PatternValidator v = new PatternValidator();
            int text = v.pattern(TEXT, 0, 0);
            int[] exactly = new int[4];
            int one = v.pattern(ATTRIBUTE, 6, text);
            exactly[0] = text;
            for (int i = 1; i <= 3; i++) {
                exactly[i] = v.pattern(GROUP, one, exactly[i - 1]);
            }
            v.open(0);
            for (int name = 0; name < attributes; name++) {
                v.attribute(name, 0);
            }
            v.text(0);
            v.text(0);
            v.open(0);
            for (int i = 0; i <= 3; i++) {
                longest("longest with " + i + " attributes of " + attributes, i == attributes ? 2 : -1, v, exactly[i]);
            }
        }
    }

    private static void longestThereIsNone() {
        Twins.Scene scene = v -> {
            v.pattern(NONE, 0, 0);
            v.pattern(NUMBER, 2, 2);
            v.pattern(DEFINITION, 0, 0);
            v.pattern(ATTRIBUTE, 1, 1);
            v.pattern(EMPTY, 0, 0);
            v.open(0);
            v.attribute(0, 0);
            v.open(1);
            v.text(1);
            v.text(2);
        };
        for (int i = 0; i <= 4; i++) {
            int pattern = i;
            TWINS.refuses("longest of the top by " + i, UNSUPPORTED, scene, v -> v.longest(pattern, 0));
        }
        for (int i = 0; i <= 3; i++) {
            int pattern = i;
            TWINS.refuses("longest of its child by " + i, UNSUPPORTED, scene, v -> v.longest(pattern, 1));
        }
        PatternValidator v = new PatternValidator();
        scene.play(v);
        CHECK.answers("0 is a number, too", 0, () -> v.longest(4, 1));
    }

    private static void longestOrderOfTesting() {
        Twins.Scene scene = v -> {
            v.pattern(NONE, 0, 0);
            v.open(0);
        };
        int[] wrong = {LEAST, -1, 1, GREATEST};
        for (int number : wrong) {
            TWINS.refuses("longest by NONE, node " + number, MISSING, scene, v -> v.longest(0, number));
            TWINS.refuses("longest by pattern " + number, MISSING, scene, v -> v.longest(number, 0));
        }
        TWINS.refuses("longest by NONE without a document", MISSING, v -> v.pattern(NONE, 0, 0), v -> v.longest(0, 0));
    }

    private static void findNoSuchPattern() {
        int[] wrong = {LEAST, -1, 2, 39, 40, GREATEST};
        for (int pattern : wrong) {
            TWINS.refuses("find " + pattern, MISSING, AskingEdgesTest::twoAndTwo, v -> v.find(pattern));
        }
        TWINS.refuses("find, no pattern was made", MISSING, v -> v.open(0), v -> v.find(0));
    }

    private static void findTheLeast() {
        for (int from = 0; from < 4; from++) {
            PatternValidator v = new PatternValidator();
            int text = v.pattern(TEXT, 0, 0);
            int item = v.pattern(ELEMENT, 1, text);
            int any = v.pattern(ELEMENT, 6, text);
            v.open(0);
            for (int i = 0; i < 4; i++) {
                v.open(i < from ? 2 : 1);
                v.close();
            }
            int due = from + 1;
            CHECK.answers("the least of those from " + due, due, () -> v.find(item));
            CHECK.answers("the least of all children", 1, () -> v.find(any));
        }
        PatternValidator deep = new PatternValidator();
        int empty = deep.pattern(EMPTY, 0, 0);
        int leaf = deep.pattern(ELEMENT, 6, empty);
        int parent = deep.pattern(ELEMENT, 6, deep.pattern(MORE, leaf, 0));
        deep.open(0);
        int textOrNode = deep.pattern(CHOICE, deep.pattern(TEXT, 0, 0), leaf);
        CHECK.answers("the top alone", 0, () -> deep.find(leaf));
        CHECK.answers("one that matches texts, too", 0, () -> deep.find(textOrNode));
        deep.open(0);
        CHECK.answers("the least leaf", 1, () -> deep.find(leaf));
        CHECK.answers("the least parent", 0, () -> deep.find(parent));
        deep.open(0);
        deep.close();
        deep.close();
        deep.open(0);
        CHECK.answers("a deep one is less than one opened later", 2, () -> deep.find(leaf));
        CHECK.answers("the least parent is the inner one", 1, () -> deep.find(parent));
    }

    private static void findTheLast() {
        PatternValidator v = new PatternValidator();
        int text = v.pattern(TEXT, 0, 0);
        int one = v.pattern(NUMBER, 1, 1);
        int withOne = v.pattern(ELEMENT, 6, one);
        int leaf = v.pattern(ELEMENT, 6, text);
        sixteenNodes(v, 0);
        CHECK.refuses("not there yet", UNSUPPORTED, v, () -> v.find(withOne));
        v.text(1);
        CHECK.answers("only the 16th", 15, () -> v.find(withOne));
        CHECK.answers("the least leaf of 14", 2, () -> v.find(leaf));
    }

    private static void findThereIsNone() {
        Twins.Scene scene = v -> {
            twoAndTwo(v);
            v.pattern(NONE, 0, 0);
            v.pattern(ELEMENT, 2, 0);
            v.pattern(EMPTY, 0, 0);
            v.pattern(DEFINITION, 3, 0);
            v.pattern(ELEMENT, 0, 0);
        };
        int[] none = {0, 2, 3, 4, 5, 6};
        for (int pattern : none) {
            TWINS.refuses("find " + pattern + ", no node", UNSUPPORTED, scene, v -> v.find(pattern));
        }
        PatternValidator v = new PatternValidator();
        scene.play(v);
        CHECK.answers("the content of the child is not to be found, the child is", 1, () -> v.find(1));
        for (int i = 0; i <= 6; i++) {
            int pattern = i;
            TWINS.refuses("find " + i + " without a document", UNSUPPORTED, made -> {
                scene.play(made);
                made.clear();
            }, made -> made.find(pattern));
        }
    }

    private static void findOrderOfTesting() {
        int[] wrong = {LEAST, -1, 0, 1, 40, GREATEST};
        for (int pattern : wrong) {
            TWINS.refuses("find " + pattern + ", neither pattern nor document", MISSING, v -> { },
                    v -> v.find(pattern));
        }
        TWINS.refuses("find 1, there is no document", MISSING, v -> v.pattern(NONE, 0, 0), v -> v.find(1));
        TWINS.refuses("find 1, there is nothing to find", MISSING, v -> {
            v.pattern(NONE, 0, 0);
            v.open(0);
        }, v -> v.find(1));
    }

    private static void nullableNoSuchPattern() {
        int[] wrong = {LEAST, -1, 2, 39, 40, GREATEST};
        for (int pattern : wrong) {
            TWINS.refuses("nullable " + pattern, MISSING, AskingEdgesTest::twoAndTwo, v -> v.nullable(pattern));
        }
        TWINS.refuses("nullable, no pattern was made", MISSING, v -> v.open(0), v -> v.nullable(0));
    }

    private static void nullableOfEachKind() {
        PatternValidator v = new PatternValidator();
        int empty = v.pattern(EMPTY, 0, 0);
        int none = v.pattern(NONE, 0, 0);
        int[] parts = {none, empty};
        for (int a = 0; a <= 1; a++) {
            for (int b = 0; b <= 1; b++) {
                int group = v.pattern(GROUP, parts[a], parts[b]);
                int interleave = v.pattern(INTERLEAVE, parts[a], parts[b]);
                int choice = v.pattern(CHOICE, parts[a], parts[b]);
                String what = " of " + a + " and " + b;
                CHECK.answers("nullable GROUP" + what, a & b, () -> v.nullable(group));
                CHECK.answers("nullable INTERLEAVE" + what, a & b, () -> v.nullable(interleave));
                CHECK.answers("nullable CHOICE" + what, a | b, () -> v.nullable(choice));
            }
            int more = v.pattern(MORE, parts[a], 0);
            int element = v.pattern(ELEMENT, 6, parts[a]);
            int attribute = v.pattern(ATTRIBUTE, 6, parts[a]);
            CHECK.answers("nullable MORE of " + a, a, () -> v.nullable(more));
            CHECK.answers("nullable ELEMENT of " + a, 0, () -> v.nullable(element));
            CHECK.answers("nullable ATTRIBUTE of " + a, 0, () -> v.nullable(attribute));
        }
        int text = v.pattern(TEXT, 0, 0);
        int number = v.pattern(NUMBER, LEAST, GREATEST);
        int attribute = v.pattern(ATTRIBUTE, 6, text);
        int meant = v.pattern(DEFINITION, 3, 0);
        CHECK.answers("nullable EMPTY", 1, () -> v.nullable(empty));
        CHECK.answers("nullable NONE", 0, () -> v.nullable(none));
        CHECK.answers("nullable TEXT", 1, () -> v.nullable(text));
        CHECK.answers("nullable NUMBER", 0, () -> v.nullable(number));
        CHECK.answers("nullable ATTRIBUTE of TEXT", 0, () -> v.nullable(attribute));
        CHECK.answers("nullable DEFINITION, none given", 0, () -> v.nullable(meant));
        v.define(3, number);
        CHECK.answers("nullable DEFINITION of NUMBER", 0, () -> v.nullable(meant));
        v.define(3, text);
        CHECK.answers("nullable DEFINITION of TEXT", 1, () -> v.nullable(meant));
    }

    private static void nullableWhateverTheDocument() {
        PatternValidator v = new PatternValidator();
        int empty = v.pattern(EMPTY, 0, 0);
        int attribute = v.pattern(ATTRIBUTE, 6, v.pattern(TEXT, 0, 0));
        int element = v.pattern(ELEMENT, 6, attribute);
        for (int step = 0; step < 4; step++) {
            CHECK.answers("EMPTY, step " + step, 1, () -> v.nullable(empty));
            CHECK.answers("ATTRIBUTE, step " + step, 0, () -> v.nullable(attribute));
            CHECK.answers("ELEMENT, step " + step, 0, () -> v.nullable(element));
            Check.told(nextStep(v, step));
        }
        CHECK.answers("EMPTY, after a node was asked", 1, () -> v.matches(element, 1) + v.nullable(empty));
    }

    /** Each of the five calls, where it answers, leaves all as it was. */
    private static void askingChangesNothing() {
        PatternValidator v = new PatternValidator();
        twoAndTwo(v);
        String[] first = answers(v);
        for (int i = 0; i < 3; i++) {
            String[] again = answers(v);
            for (int k = 0; k < first.length; k++) {
                CHECK.same("asked again, " + k, first[k], again[k]);
            }
        }
        CHECK.answers("the child is still open", 2, () -> v.text(1));
        CHECK.answers("two patterns still", 2, () -> v.pattern(EMPTY, 0, 0));
    }

    private static String[] answers(PatternValidator v) {
        Check.Call[] calls = {
            () -> v.matches(1, 0), () -> v.matches(1, 1), () -> v.content(0, 0), () -> v.content(0, 1),
            () -> v.longest(0, 0), () -> v.longest(0, 1), () -> v.find(0), () -> v.find(1),
            () -> v.nullable(0), () -> v.nullable(1), () -> v.count(0), () -> v.count(1),
            () -> v.count(2), () -> v.count(3), () -> v.count(4), () -> v.count(5),
        };
        String[] all = new String[calls.length];
        for (int i = 0; i < calls.length; i++) {
            all[i] = Check.told(calls[i]);
        }
        return all;
    }

    /** 511 calls, the last of all being asked after them. */
    private static void lastOfAllCalls() {
        Twins.Ask[] last = {
            v -> v.pattern(MORE, 0, 0), v -> v.define(0, 0), v -> v.open(0), v -> v.attribute(0, 0), v -> v.text(0),
            PatternValidator::close, PatternValidator::clear, v -> v.matches(1, 0), v -> v.content(0, 0),
            v -> v.longest(0, 0), v -> v.find(1), v -> v.nullable(0), v -> v.count(2),
        };
        int[] due = {2, 1, 1, 1, 1, 0, 1, 1, 1, 0, 0, 1, 1};
        for (int i = 0; i < last.length; i++) {
            Twins.Ask asked = last[i];
            PatternValidator v = new PatternValidator();
            v.pattern(TEXT, 0, 0);
            v.pattern(ELEMENT, 6, 0);
            for (int calls = 2; calls < 510; calls++) {
                Check.told(calls % 2 == 0 ? () -> v.open(0) : v::clear);
            }
            v.open(0);
            CHECK.answers("the 512th call, " + i, due[i], () -> asked.of(v));
        }
    }
}
