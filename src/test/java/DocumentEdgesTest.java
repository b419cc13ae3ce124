import java.util.NoSuchElementException;

/** The edges that the document names for open, attribute, text, close, clear and count: a test for each sentence. */
public final class DocumentEdgesTest {
    private static final Class<IllegalArgumentException> ARGUMENT = IllegalArgumentException.class;
    private static final Class<IllegalStateException> STATE = IllegalStateException.class;
    private static final Class<NoSuchElementException> MISSING = NoSuchElementException.class;

    private static final int LEAST = Integer.MIN_VALUE;
    private static final int GREATEST = Integer.MAX_VALUE;

    private static final int[] NO_NAMES = {LEAST, -1, 6, 7, GREATEST};

    private static final Check CHECK = new Check();
    private static final Twins TWINS = new Twins(CHECK);

    private DocumentEdgesTest() {
    }

    public static void main(String[] args) {
        newObjectIsEmpty();
        objectsStandAlone();
        namesOfElements();
        nodesAreNumberedAsTheyAreOpened();
        opensInTheElementThatIsOpenLast();
        topIsThereAndClosed();
        atMostSixteenNodes();
        atMostFourDeep();
        fourDeepAgain();
        openAtMostSixChildren();
        openOrderOfTesting();
        openSeveralStatesAtOnce();
        namesOfAttributes();
        attributeAnswersHowMany();
        attributeNoneIsOpen();
        attributeHasAChildAlready();
        attributeSuchAnAttribute();
        atMostThreeAttributes();
        attributeOrderOfTesting();
        attributeSeveralStatesAtOnce();
        attributeValues();
        textAnswersHowMany();
        textNoneIsOpen();
        textAtMostSixChildren();
        textValues();
        closeAnswersTheNumber();
        closeNoneIsOpen();
        clearAnswersHowManyNodes();
        clearTakesTheDocumentAway();
        clearLeavesPatternsAndDefinitions();
        countOfAnotherNumber();
        countOfPatternsAndDefinitions();
        countOfNodesAndOpenOnes();
        countOfTheNodeOpenLast();
        CHECK.end();
    }

    /** Patterns that tell a good deal of what a node holds. */
    private static void tellers(PatternValidator v) {
        int text = v.pattern(2, 0, 0);
        int seven = v.pattern(3, 7, 7);
        int any = v.pattern(3, LEAST, GREATEST);
        int attribute = v.pattern(9, 6, text);
        int attributeSeven = v.pattern(9, 5, seven);
        int element = v.pattern(8, 6, text);
        int item = v.pattern(6, text, element);
        int items = v.pattern(7, v.pattern(6, item, attribute), 0);
        v.pattern(7, v.pattern(6, element, any), 0);
        v.define(3, items);
        int meant = v.pattern(10, 3, 0);
        v.pattern(4, attributeSeven, meant);
        v.pattern(8, 6, meant);
    }

    private static void openTimes(PatternValidator v, int times) {
        for (int i = 0; i < times; i++) {
            v.open(i);
        }
    }

    private static void addElements(PatternValidator v, int times) {
        for (int i = 0; i < times; i++) {
            v.open(i % 6);
            v.close();
        }
    }

    private static void addTexts(PatternValidator v, int times) {
        for (int i = 0; i < times; i++) {
            v.text(i);
        }
    }

    private static void addAttributes(PatternValidator v, int times) {
        for (int i = 0; i < times; i++) {
            v.attribute(5 - i, 7);
        }
    }

    /** The top with two elements of six children each, and one with none that stays open: 16 nodes. */
    private static void sixteenNodes(PatternValidator v) {
        v.open(0);
        for (int i = 0; i < 2; i++) {
            v.open(1);
            addElements(v, 6);
            v.close();
        }
        v.open(1);
    }

    private static void counts(String what, PatternValidator v, int... due) {
        for (int i = 0; i < due.length; i++) {
            int asked = i;
            CHECK.answers(what + ": count(" + i + ")", due[i], () -> v.count(asked));
        }
    }

    private static void newObjectIsEmpty() {
        counts("new", new PatternValidator(), 0, 0, 0, 0, -1, -1);
        PatternValidator v = new PatternValidator();
        CHECK.answers("new: nothing to take away", 0, v::clear);
        CHECK.answers("new: the first pattern", 0, () -> v.pattern(10, 0, 0));
        CHECK.answers("new: the first node", 0, () -> v.open(0));
        CHECK.answers("new: no definition has a pattern", 1, () -> v.define(3, 0));
        TWINS.refuses("new: nothing to close", STATE, made -> { }, PatternValidator::close);
        TWINS.refuses("new: no element for a text", STATE, made -> { }, made -> made.text(0));
        TWINS.refuses("new: no element for an attribute", STATE, made -> { }, made -> made.attribute(0, 0));
        TWINS.refuses("new: no pattern to give", MISSING, made -> { }, made -> made.define(0, 0));
        TWINS.refuses("new: no pattern to find", MISSING, made -> { }, made -> made.find(0));
        TWINS.refuses("new: no pattern to ask", MISSING, made -> { }, made -> made.nullable(0));
        TWINS.refuses("new: no pattern or node to match", MISSING, made -> { }, made -> made.matches(0, 0));
    }

    private static void objectsStandAlone() {
        PatternValidator one = new PatternValidator();
        PatternValidator other = new PatternValidator();
        one.pattern(2, 0, 0);
        one.pattern(10, 0, 0);
        one.define(0, 0);
        openTimes(one, 3);
        counts("the other is still new", other, 0, 0, 0, 0, -1, -1);
        other.pattern(10, 0, 0);
        other.pattern(10, 0, 0);
        other.open(5);
        other.clear();
        counts("the first is as it was", one, 2, 1, 3, 3, 2, 2);
        CHECK.answers("its definition is its own", 1, () -> one.nullable(1));
        CHECK.answers("and not the other's", 0, () -> other.nullable(1));
    }

    private static void namesOfElements() {
        for (int i = 0; i <= 5; i++) {
            int name = i;
            PatternValidator v = new PatternValidator();
            CHECK.answers("open " + name + " as the top", 0, () -> v.open(name));
            CHECK.answers("its name", name, () -> v.count(4));
            CHECK.answers("open " + name + " in it", 1, () -> v.open(name));
            CHECK.answers("its name", name, () -> v.count(4));
        }
        for (int name : NO_NAMES) {
            TWINS.refuses("open " + name + " as the top", ARGUMENT, DocumentEdgesTest::tellers, v -> v.open(name));
            TWINS.refuses("open " + name + " in the top", ARGUMENT, v -> {
                tellers(v);
                v.open(0);
            }, v -> v.open(name));
        }
    }

    private static void nodesAreNumberedAsTheyAreOpened() {
        PatternValidator v = new PatternValidator();
        CHECK.answers("the top", 0, () -> v.open(3));
        CHECK.answers("in it", 1, () -> v.open(3));
        CHECK.answers("deeper", 2, () -> v.open(3));
        v.close();
        v.text(0);
        CHECK.answers("beside it, texts have no numbers", 3, () -> v.open(3));
        v.close();
        v.close();
        Check.told(() -> v.open(6));
        CHECK.answers("one refused has no number", 4, () -> v.open(3));
        v.clear();
        CHECK.answers("from 0 again", 0, () -> v.open(3));
    }

    private static void opensInTheElementThatIsOpenLast() {
        PatternValidator v = new PatternValidator();
        int empty = v.pattern(0, 0, 0);
        int leaf = v.pattern(8, 2, empty);
        int two = v.pattern(4, v.pattern(8, 1, leaf), v.pattern(8, 3, empty));
        v.open(0);
        v.open(1);
        v.open(2);
        v.close();
        v.close();
        v.open(3);
        CHECK.answers("the closed one gets no child", 1, () -> v.content(leaf, 1));
        CHECK.answers("the open one gets it behind its others", 1, () -> v.content(two, 0));
        CHECK.answers("the new one is empty", 1, () -> v.content(empty, 3));
    }

    private static void topIsThereAndClosed() {
        TWINS.refuses("open beside a closed top", STATE, v -> {
            tellers(v);
            v.open(0);
            v.close();
        }, v -> v.open(0));
        TWINS.refuses("open beside a closed top with a child", STATE, v -> {
            tellers(v);
            openTimes(v, 2);
            v.close();
            v.close();
        }, v -> v.open(5));
        PatternValidator v = new PatternValidator();
        v.open(0);
        v.close();
        v.clear();
        CHECK.answers("open where a closed one was taken away", 0, () -> v.open(0));
    }

    private static void atMostSixteenNodes() {
        PatternValidator v = new PatternValidator();
        v.open(0);
        for (int i = 0; i < 2; i++) {
            v.open(1);
            addElements(v, 6);
            v.close();
        }
        CHECK.answers("the 16th", 15, () -> v.open(1));
        CHECK.answers("16 are there", 16, () -> v.count(2));
        CHECK.answers("the 16th takes a text", 1, () -> v.text(0));
        CHECK.answers("the 16th can be asked", 1, () -> v.content(v.pattern(2, 0, 0), 15));
        TWINS.refuses("the 17th, in the 16th", STATE, made -> {
            tellers(made);
            sixteenNodes(made);
        }, made -> made.open(0));
        TWINS.refuses("the 17th, in the top", STATE, made -> {
            tellers(made);
            sixteenNodes(made);
            made.close();
        }, made -> made.open(0));
        v.clear();
        CHECK.answers("all 16 taken away", 0, () -> v.open(0));
    }

    private static void atMostFourDeep() {
        PatternValidator v = new PatternValidator();
        for (int i = 0; i < 4; i++) {
            int due = i;
            CHECK.answers("deep " + (i + 1), due, () -> v.open(due));
        }
        CHECK.answers("four are open", 4, () -> v.count(3));
        for (int i = 0; i <= 5; i++) {
            int name = i;
            TWINS.refuses("the fifth one deep, name " + i, STATE, made -> {
                tellers(made);
                openTimes(made, 4);
            }, made -> made.open(name));
        }
        CHECK.answers("the fourth one deep takes texts", 1, () -> v.text(0));
    }

    private static void fourDeepAgain() {
        PatternValidator v = new PatternValidator();
        openTimes(v, 4);
        v.close();
        CHECK.answers("beside the fourth", 4, () -> v.open(0));
        CHECK.refuses("in that", STATE, v, () -> v.open(0));
        v.close();
        v.close();
        CHECK.answers("beside the third", 5, () -> v.open(0));
        CHECK.answers("in that", 6, () -> v.open(0));
        CHECK.refuses("the fifth one deep again", STATE, v, () -> v.open(0));
        v.clear();
        openTimes(v, 3);
        CHECK.answers("the fourth after clear", 3, () -> v.open(0));
    }

    private static void openAtMostSixChildren() {
        for (int i = 0; i <= 6; i++) {
            int texts = i;
            PatternValidator v = new PatternValidator();
            v.open(0);
            addTexts(v, texts);
            for (int k = texts; k < 6; k++) {
                int due = k - texts + 1;
                CHECK.answers("child " + (k + 1) + ", " + texts + " of them texts", due, () -> v.open(0));
                v.close();
            }
            TWINS.refuses("the seventh child, " + texts + " of them texts", STATE, made -> {
                tellers(made);
                made.open(0);
                addTexts(made, texts);
                addElements(made, 6 - texts);
            }, made -> made.open(0));
        }
        PatternValidator v = new PatternValidator();
        v.open(0);
        addElements(v, 5);
        v.open(0);
        CHECK.answers("the parent is full, its sixth child is not", 7, () -> v.open(0));
    }

    private static void openOrderOfTesting() {
        for (int name : NO_NAMES) {
            TWINS.refuses("top closed, name " + name, ARGUMENT, v -> {
                v.open(0);
                v.close();
            }, v -> v.open(name));
            TWINS.refuses("16 nodes, name " + name, ARGUMENT, DocumentEdgesTest::sixteenNodes, v -> v.open(name));
            TWINS.refuses("four deep, name " + name, ARGUMENT, v -> openTimes(v, 4), v -> v.open(name));
            TWINS.refuses("six children, name " + name, ARGUMENT, v -> {
                v.open(0);
                addTexts(v, 6);
            }, v -> v.open(name));
        }
    }

    private static void openSeveralStatesAtOnce() {
        TWINS.refuses("four deep with six children", STATE, v -> {
            openTimes(v, 4);
            addTexts(v, 6);
        }, v -> v.open(0));
        TWINS.refuses("16 nodes, six children", STATE, v -> {
            sixteenNodes(v);
            addTexts(v, 6);
        }, v -> v.open(0));
        TWINS.refuses("16 nodes, the top closed", STATE, v -> {
            sixteenNodes(v);
            v.close();
            v.close();
        }, v -> v.open(0));
        TWINS.refuses("16 nodes, four deep", STATE, v -> {
            v.open(0);
            v.open(0);
            addElements(v, 6);
            v.close();
            v.open(0);
            addElements(v, 5);
            v.open(0);
            v.open(0);
        }, v -> v.open(0));
    }

    private static void namesOfAttributes() {
        for (int i = 0; i <= 5; i++) {
            int name = i;
            PatternValidator v = new PatternValidator();
            int named = v.pattern(9, name, v.pattern(2, 0, 0));
            v.open(0);
            CHECK.answers("attribute " + name, 1, () -> v.attribute(name, 0));
            CHECK.answers("its name", 1, () -> v.content(named, 0));
        }
        for (int name : NO_NAMES) {
            TWINS.refuses("attribute " + name, ARGUMENT, v -> {
                tellers(v);
                v.open(0);
            }, v -> v.attribute(name, 7));
            TWINS.refuses("attribute " + name + " as the third", ARGUMENT, v -> {
                tellers(v);
                v.open(0);
                addAttributes(v, 2);
            }, v -> v.attribute(name, 7));
        }
    }

    private static void attributeAnswersHowMany() {
        PatternValidator v = new PatternValidator();
        v.open(0);
        CHECK.answers("one", 1, () -> v.attribute(0, 0));
        CHECK.answers("two", 2, () -> v.attribute(1, 0));
        CHECK.answers("three", 3, () -> v.attribute(2, 0));
        v.open(0);
        CHECK.answers("the child has one of its own", 1, () -> v.attribute(0, 0));
        v.close();
        v.open(0);
        CHECK.answers("the next child, too", 1, () -> v.attribute(0, 0));
        v.clear();
        v.open(0);
        CHECK.answers("the new top, too", 1, () -> v.attribute(0, 0));
    }

    private static void attributeNoneIsOpen() {
        TWINS.refuses("attribute without a document", STATE, v -> { }, v -> v.attribute(0, 0));
        TWINS.refuses("attribute, the top is closed", STATE, v -> {
            tellers(v);
            v.open(0);
            v.close();
        }, v -> v.attribute(0, 0));
        TWINS.refuses("attribute, the document is taken away", STATE, v -> {
            tellers(v);
            v.open(0);
            v.clear();
        }, v -> v.attribute(0, 0));
    }

    private static void attributeHasAChildAlready() {
        TWINS.refuses("attribute behind a text", STATE, v -> {
            tellers(v);
            v.open(0);
            v.text(7);
        }, v -> v.attribute(5, 7));
        TWINS.refuses("attribute behind an element", STATE, v -> {
            tellers(v);
            v.open(0);
            addElements(v, 1);
        }, v -> v.attribute(5, 7));
        TWINS.refuses("attribute behind an attribute and a text", STATE, v -> {
            tellers(v);
            v.open(0);
            v.attribute(0, 7);
            v.text(7);
        }, v -> v.attribute(5, 7));
        TWINS.refuses("attribute behind six children", STATE, v -> {
            tellers(v);
            v.open(0);
            addTexts(v, 6);
        }, v -> v.attribute(5, 7));
        PatternValidator v = new PatternValidator();
        v.open(0);
        v.text(0);
        v.open(0);
        CHECK.answers("the parent has children, the open one has none", 1, () -> v.attribute(0, 0));
    }

    private static void attributeSuchAnAttribute() {
        for (int i = 0; i <= 5; i++) {
            int name = i;
            TWINS.refuses("attribute " + name + " again", STATE, v -> {
                tellers(v);
                v.open(0);
                v.attribute(name, 7);
            }, v -> v.attribute(name, 8));
            TWINS.refuses("attribute " + name + " again with the same value", STATE, v -> {
                tellers(v);
                v.open(0);
                v.attribute(name, 7);
            }, v -> v.attribute(name, 7));
        }
        for (int i = 4; i <= 5; i++) {
            int name = i;
            TWINS.refuses("attribute " + name + " again behind two", STATE, v -> {
                tellers(v);
                v.open(0);
                addAttributes(v, 2);
            }, v -> v.attribute(name, 8));
        }
        PatternValidator v = new PatternValidator();
        int nine = v.pattern(9, 5, v.pattern(3, 9, 9));
        v.open(0);
        v.attribute(5, 9);
        Check.told(() -> v.attribute(5, 10));
        CHECK.answers("it keeps its value", 1, () -> v.content(nine, 0));
        CHECK.answers("another name with the same value", 2, () -> v.attribute(4, 9));
        v.open(0);
        CHECK.answers("the parent's is not the child's", 1, () -> v.attribute(5, 9));
    }

    private static void atMostThreeAttributes() {
        for (int i = 0; i <= 2; i++) {
            int name = i;
            TWINS.refuses("the fourth attribute, " + name, STATE, v -> {
                tellers(v);
                v.open(0);
                addAttributes(v, 3);
            }, v -> v.attribute(name, 7));
        }
        for (int i = 3; i <= 5; i++) {
            int name = i;
            TWINS.refuses("the fourth attribute, and such a one is there", STATE, v -> {
                tellers(v);
                v.open(0);
                addAttributes(v, 3);
            }, v -> v.attribute(name, 7));
        }
        PatternValidator v = new PatternValidator();
        v.open(0);
        addAttributes(v, 3);
        Check.told(() -> v.attribute(0, 0));
        CHECK.answers("three leave room for texts", 1, () -> v.text(0));
    }

    private static void attributeOrderOfTesting() {
        for (int name : NO_NAMES) {
            TWINS.refuses("none is open, name " + name, ARGUMENT, v -> { }, v -> v.attribute(name, 0));
            TWINS.refuses("all is closed, name " + name, ARGUMENT, v -> {
                v.open(0);
                v.close();
            }, v -> v.attribute(name, 0));
            TWINS.refuses("a child, name " + name, ARGUMENT, v -> {
                v.open(0);
                v.text(0);
            }, v -> v.attribute(name, 0));
            TWINS.refuses("three attributes, name " + name, ARGUMENT, v -> {
                v.open(0);
                addAttributes(v, 3);
            }, v -> v.attribute(name, 0));
        }
    }

    private static void attributeSeveralStatesAtOnce() {
        TWINS.refuses("a child and such an attribute", STATE, v -> {
            v.open(0);
            v.attribute(5, 7);
            v.text(7);
        }, v -> v.attribute(5, 7));
        TWINS.refuses("a child and three attributes", STATE, v -> {
            v.open(0);
            addAttributes(v, 3);
            v.text(7);
        }, v -> v.attribute(0, 7));
    }

    private static void attributeValues() {
        int[] values = {LEAST, LEAST + 1, -1, 0, 1, GREATEST - 1, GREATEST};
        for (int value : values) {
            PatternValidator v = new PatternValidator();
            int it = v.pattern(9, 0, v.pattern(3, value, value));
            v.open(0);
            CHECK.answers("attribute with the value " + value, 1, () -> v.attribute(0, value));
            CHECK.answers("it has it", 1, () -> v.content(it, 0));
        }
    }

    private static void textAnswersHowMany() {
        PatternValidator v = new PatternValidator();
        v.open(0);
        for (int i = 1; i <= 6; i++) {
            int due = i;
            CHECK.answers("text " + i, due, () -> v.text(0));
        }
        v.clear();
        v.open(0);
        addElements(v, 2);
        CHECK.answers("elements are children too", 3, () -> v.text(0));
        v.open(0);
        CHECK.answers("the child's own", 1, () -> v.text(0));
        v.close();
        CHECK.answers("and the parent's again", 5, () -> v.text(0));
        v.clear();
        v.open(0);
        addAttributes(v, 3);
        CHECK.answers("attributes are no children", 1, () -> v.text(0));
    }

    private static void textNoneIsOpen() {
        TWINS.refuses("text without a document", STATE, v -> { }, v -> v.text(0));
        TWINS.refuses("text, the top is closed", STATE, v -> {
            tellers(v);
            v.open(0);
            v.close();
        }, v -> v.text(7));
        TWINS.refuses("text, the document is taken away", STATE, v -> {
            tellers(v);
            v.open(0);
            v.clear();
        }, v -> v.text(7));
    }

    private static void textAtMostSixChildren() {
        for (int i = 0; i <= 6; i++) {
            int elements = i;
            PatternValidator v = new PatternValidator();
            v.open(0);
            addElements(v, elements);
            for (int k = elements; k < 6; k++) {
                int due = k + 1;
                CHECK.answers("child " + (k + 1) + ", " + elements + " of them elements", due, () -> v.text(0));
            }
            TWINS.refuses("the seventh child, " + elements + " of them elements", STATE, made -> {
                tellers(made);
                made.open(0);
                addElements(made, elements);
                addTexts(made, 6 - elements);
            }, made -> made.text(7));
        }
        PatternValidator v = new PatternValidator();
        v.open(0);
        addElements(v, 5);
        v.open(0);
        CHECK.answers("the parent is full, its sixth child is not", 1, () -> v.text(0));
        v.close();
        CHECK.refuses("but the parent is", STATE, v, () -> v.text(0));
        v.clear();
        sixteenNodes(v);
        CHECK.answers("16 nodes leave room for texts", 1, () -> v.text(0));
    }

    private static void textValues() {
        int[] values = {LEAST, LEAST + 1, -1, 0, 1, GREATEST - 1, GREATEST};
        for (int value : values) {
            PatternValidator v = new PatternValidator();
            int it = v.pattern(3, value, value);
            v.open(0);
            CHECK.answers("text " + value, 1, () -> v.text(value));
            CHECK.answers("it is there", 1, () -> v.content(it, 0));
        }
    }

    private static void closeAnswersTheNumber() {
        PatternValidator v = new PatternValidator();
        openTimes(v, 4);
        CHECK.answers("the fourth", 3, v::close);
        CHECK.answers("the third", 2, v::close);
        v.open(0);
        CHECK.answers("a later one", 4, v::close);
        CHECK.answers("the second", 1, v::close);
        CHECK.answers("the top", 0, v::close);
        v.clear();
        sixteenNodes(v);
        CHECK.answers("the 16th", 15, v::close);
        CHECK.answers("the top of 16", 0, v::close);
    }

    private static void closeNoneIsOpen() {
        TWINS.refuses("close without a document", STATE, DocumentEdgesTest::tellers, PatternValidator::close);
        TWINS.refuses("close, the top is closed", STATE, v -> {
            tellers(v);
            v.open(0);
            v.close();
        }, PatternValidator::close);
        TWINS.refuses("close, all four are closed", STATE, v -> {
            tellers(v);
            openTimes(v, 4);
            for (int i = 0; i < 4; i++) {
                v.close();
            }
        }, PatternValidator::close);
        TWINS.refuses("close, the document is taken away", STATE, v -> {
            tellers(v);
            openTimes(v, 2);
            v.clear();
        }, PatternValidator::close);
    }

    private static void clearAnswersHowManyNodes() {
        PatternValidator v = new PatternValidator();
        CHECK.answers("no document", 0, v::clear);
        CHECK.answers("again", 0, v::clear);
        v.open(0);
        addTexts(v, 6);
        CHECK.answers("texts are no nodes", 1, v::clear);
        CHECK.answers("nothing is left", 0, v::clear);
        openTimes(v, 4);
        v.close();
        CHECK.answers("open and closed ones", 4, v::clear);
        sixteenNodes(v);
        CHECK.answers("all 16", 16, v::clear);
    }

    private static void clearTakesTheDocumentAway() {
        PatternValidator v = new PatternValidator();
        int empty = v.pattern(0, 0, 0);
        sixteenNodes(v);
        addTexts(v, 6);
        v.clear();
        counts("taken away", v, 1, 0, 0, 0, -1, -1);
        CHECK.refuses("no node is left", MISSING, v, () -> v.content(empty, 0));
        CHECK.refuses("nor the last", MISSING, v, () -> v.content(empty, 15));
        CHECK.refuses("none is open", STATE, v, v::close);
        for (int i = 0; i < 4; i++) {
            int node = i;
            CHECK.answers("a new one", node, () -> v.open(5));
            CHECK.answers("is empty", 1, () -> v.content(empty, node));
            CHECK.answers("and has no attribute", 1, () -> v.attribute(0, 0));
        }
        v.clear();
        v.open(0);
        addAttributes(v, 3);
        v.clear();
        v.open(0);
        CHECK.answers("no attributes are left", 1, () -> v.content(empty, 0));
        CHECK.answers("so it may have them", 1, () -> v.attribute(5, 0));
    }

    private static void clearLeavesPatternsAndDefinitions() {
        PatternValidator v = new PatternValidator();
        int text = v.pattern(2, 0, 0);
        int meant = v.pattern(10, 3, 0);
        v.define(3, text);
        v.open(0);
        v.clear();
        CHECK.answers("two patterns", 2, () -> v.count(0));
        CHECK.answers("one definition", 1, () -> v.count(1));
        CHECK.answers("with its pattern", 1, () -> v.nullable(meant));
        CHECK.answers("it has one", 0, () -> v.define(3, text));
    }

    private static void countOfAnotherNumber() {
        int[] wrong = {LEAST, -1, 6, 7, GREATEST};
        for (int what : wrong) {
            TWINS.refuses("count " + what + " of a new one", ARGUMENT, v -> { }, v -> v.count(what));
            TWINS.refuses("count " + what, ARGUMENT, v -> {
                tellers(v);
                openTimes(v, 2);
            }, v -> v.count(what));
        }
    }

    private static void countOfPatternsAndDefinitions() {
        PatternValidator v = new PatternValidator();
        for (int i = 0; i < 40; i++) {
            int due = i;
            CHECK.answers("patterns", due, () -> v.count(0));
            v.pattern(0, 0, 0);
        }
        CHECK.answers("40 patterns", 40, () -> v.count(0));
        Check.told(() -> v.pattern(0, 0, 0));
        CHECK.answers("no more than 40", 40, () -> v.count(0));
        for (int i = 3; i >= 0; i--) {
            int definition = i;
            CHECK.answers("definitions", 3 - definition, () -> v.count(1));
            v.define(definition, 0);
            v.define(definition, 1);
        }
        CHECK.answers("four definitions", 4, () -> v.count(1));
    }

    private static void countOfNodesAndOpenOnes() {
        PatternValidator v = new PatternValidator();
        for (int i = 0; i < 4; i++) {
            counts("open " + i, v, 0, 0, i, i);
            v.open(i);
        }
        counts("open 4", v, 0, 0, 4, 4);
        Check.told(() -> v.open(0));
        counts("no fifth", v, 0, 0, 4, 4);
        for (int i = 3; i >= 0; i--) {
            v.close();
            counts("closed but " + i, v, 0, 0, 4, i);
        }
        v.clear();
        sixteenNodes(v);
        counts("16 nodes", v, 0, 0, 16, 2);
        Check.told(() -> v.open(0));
        counts("no 17th", v, 0, 0, 16, 2);
    }

    private static void countOfTheNodeOpenLast() {
        PatternValidator v = new PatternValidator();
        counts("without one", v, 0, 0, 0, 0, -1, -1);
        v.open(0);
        counts("name 0, number 0", v, 0, 0, 1, 1, 0, 0);
        v.open(5);
        counts("name 5, number 1", v, 0, 0, 2, 2, 5, 1);
        v.text(9);
        v.close();
        counts("the top again", v, 0, 0, 2, 1, 0, 0);
        v.open(3);
        counts("name 3, number 2", v, 0, 0, 3, 2, 3, 2);
        v.close();
        v.close();
        counts("all closed", v, 0, 0, 3, 0, -1, -1);
        v.clear();
        counts("taken away", v, 0, 0, 0, 0, -1, -1);
        sixteenNodes(v);
        counts("the 16th", v, 0, 0, 16, 2, 1, 15);
    }
}
