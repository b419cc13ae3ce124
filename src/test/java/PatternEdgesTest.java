import java.util.NoSuchElementException;

/** The edges that the document names for pattern and define: one test for each sentence. */
public final class PatternEdgesTest {
    private static final Class<IllegalArgumentException> ARGUMENT = IllegalArgumentException.class;
    private static final Class<IllegalStateException> STATE = IllegalStateException.class;
    private static final Class<NoSuchElementException> MISSING = NoSuchElementException.class;
    private static final Class<UnsupportedOperationException> UNSUPPORTED = UnsupportedOperationException.class;

    private static final int LEAST = Integer.MIN_VALUE;
    private static final int GREATEST = Integer.MAX_VALUE;

    private static final int TEXT = 2;
    private static final int MORE = 7;
    private static final int ELEMENT = 8;
    private static final int ATTRIBUTE = 9;
    private static final int DEFINITION = 10;

    private static final Check CHECK = new Check();
    private static final Twins TWINS = new Twins(CHECK);

    private PatternEdgesTest() {
    }

    public static void main(String[] args) {
        patternsAreNumberedAsTheyAreMade();
        atMostFortyPatterns();
        depthOfOthersIsOne();
        depthIsOneMoreThanTheGreatest();
        depthOfTwoIsNotTheirSum();
        depthAboveFive();
        depthOfWhatAKindHasNoUseFor();
        depthOfADefinitionIsNotThatOfItsPattern();
        kindNotZeroToTen();
        patternsThatWereNotMade();
        patternsThatWereMade();
        nameNotZeroToSix();
        definitionNotZeroToThree();
        whatAKindHasNoUseForMayBeAnything();
        argumentIsTestedBeforeForty();
        argumentIsTestedBeforeDepth();
        fortyAndDepthAtOnce();
        givesOneIfItHadNone();
        givesInPlaceOfTheOneThatItHas();
        defineOutsideZeroToThree();
        defineNoSuchPattern();
        defineOrderOfTesting();
        comesToItself();
        comesToByWhatItIsMadeOf();
        comesNotByTheContentOfAnElement();
        comesNotByWhatAKindHasNoUseFor();
        comesToByADefinition();
        comesToByTheLongestChain();
        comesToAsTheDefinitionsAreNow();
        CHECK.end();
    }

    private static int argumentA(int kind, int pattern) {
        return kind == ELEMENT || kind == ATTRIBUTE ? 6 : kind == DEFINITION ? 3 : pattern;
    }

    /** A pattern 0 and others upon one another by MORE: pattern i has the depth i + 1. */
    private static void towerOfFive(PatternValidator v) {
        v.pattern(TEXT, 0, 0);
        for (int below = 0; below < 4; below++) {
            v.pattern(MORE, below, 0);
        }
    }

    private static void fortyPatterns(PatternValidator v) {
        towerOfFive(v);
        for (int i = 5; i < 40; i++) {
            v.pattern(i % 4, i, i);
        }
    }

    private static void patternsAreNumberedAsTheyAreMade() {
        PatternValidator v = new PatternValidator();
        CHECK.answers("the first is 0", 0, () -> v.pattern(10, 0, 0));
        CHECK.answers("the next is 1", 1, () -> v.pattern(10, 0, 0));
        Check.told(() -> v.pattern(11, 0, 0));
        CHECK.answers("one refused has no number", 2, () -> v.pattern(4, 0, 1));
        v.open(0);
        v.clear();
        CHECK.answers("clear takes no pattern away", 3, () -> v.pattern(0, 0, 0));
    }

    private static void atMostFortyPatterns() {
        PatternValidator v = new PatternValidator();
        for (int i = 0; i < 39; i++) {
            v.pattern(TEXT, 0, 0);
        }
        CHECK.answers("the 40th", 39, () -> v.pattern(MORE, 38, 0));
        CHECK.answers("40 are there", 40, () -> v.count(0));
        CHECK.answers("the 40th can be asked", 1, () -> v.nullable(39));
        CHECK.answers("the 40th can be given", 1, () -> v.define(0, 39));
        for (int i = 0; i <= 10; i++) {
            int kind = i;
            TWINS.refuses("the 41st, kind " + kind, STATE, PatternEdgesTest::fortyPatterns,
                    made -> made.pattern(kind, argumentA(kind, 0), 0));
        }
    }

    private static void depthOfOthersIsOne() {
        int[] kinds = {0, 1, 2, 3, 10};
        for (int kind : kinds) {
            Twins.Scene tower = v -> {
                v.pattern(kind, 0, 0);
                for (int below = 0; below < 3; below++) {
                    v.pattern(MORE, below, 0);
                }
            };
            PatternValidator v = new PatternValidator();
            tower.play(v);
            CHECK.answers("kind " + kind + " has depth 1, so four stand upon it", 4, () -> v.pattern(MORE, 3, 0));
            TWINS.refuses("kind " + kind + " has depth 1, no five stand upon it", STATE, made -> {
                tower.play(made);
                made.pattern(MORE, 3, 0);
            }, made -> made.pattern(MORE, 4, 0));
        }
    }

    private static void depthIsOneMoreThanTheGreatest() {
        for (int i = 4; i <= 9; i++) {
            int kind = i;
            int a = argumentA(kind, 3);
            PatternValidator v = new PatternValidator();
            towerOfFive(v);
            CHECK.answers("kind " + kind + " upon depth 4", 5, () -> v.pattern(kind, a, 3));
            for (int k = 4; k <= 9; k++) {
                int above = k;
                TWINS.refuses("kind " + above + " upon kind " + kind + " of depth 5", STATE, made -> {
                    towerOfFive(made);
                    made.pattern(kind, a, 3);
                }, made -> made.pattern(above, argumentA(above, 5), 5));
            }
        }
    }

    private static void depthOfTwoIsNotTheirSum() {
        for (int i = 4; i <= 6; i++) {
            int kind = i;
            PatternValidator v = new PatternValidator();
            towerOfFive(v);
            CHECK.answers("kind " + kind + " of depths 4 and 4", 5, () -> v.pattern(kind, 3, 3));
            CHECK.answers("kind " + kind + " of depths 4 and 1", 6, () -> v.pattern(kind, 3, 0));
            CHECK.answers("kind " + kind + " of depths 1 and 4", 7, () -> v.pattern(kind, 0, 3));
            CHECK.answers("kind " + kind + " of depths 3 and 2", 8, () -> v.pattern(kind, 2, 1));
            CHECK.answers("which has depth 4", 9, () -> v.pattern(MORE, 8, 0));
            CHECK.refuses("and the one upon it 5", STATE, v, () -> v.pattern(MORE, 9, 0));
            for (int made = 5; made <= 7; made++) {
                int below = made;
                CHECK.refuses("kind " + kind + ", the greatest counts", STATE, v, () -> v.pattern(MORE, below, 0));
            }
        }
    }

    private static void depthAboveFive() {
        for (int i = 4; i <= 6; i++) {
            int kind = i;
            int[][] pairs = {{4, 4}, {4, 0}, {0, 4}, {4, 3}, {3, 4}};
            for (int[] pair : pairs) {
                TWINS.refuses("kind " + kind + " of depths " + (pair[0] + 1) + " and " + (pair[1] + 1), STATE,
                        PatternEdgesTest::towerOfFive, v -> v.pattern(kind, pair[0], pair[1]));
            }
        }
        TWINS.refuses("MORE of depth 5", STATE, PatternEdgesTest::towerOfFive, v -> v.pattern(MORE, 4, 0));
        for (int i = 0; i <= 6; i++) {
            int name = i;
            TWINS.refuses("ELEMENT of depth 5", STATE, PatternEdgesTest::towerOfFive, v -> v.pattern(ELEMENT, name, 4));
            TWINS.refuses("ATTRIBUTE of depth 5", STATE, PatternEdgesTest::towerOfFive,
                    v -> v.pattern(ATTRIBUTE, name, 4));
        }
    }

    private static void depthOfWhatAKindHasNoUseFor() {
        PatternValidator v = new PatternValidator();
        towerOfFive(v);
        for (int kind = 0; kind <= 3; kind++) {
            int asked = kind;
            CHECK.answers("kind " + kind + " has depth 1 beside deep ones", 5 + kind, () -> v.pattern(asked, 4, 4));
            CHECK.answers("so four may stand upon it", 9, () -> fourUpon(asked));
        }
        CHECK.answers("MORE is not made of b", 9, () -> v.pattern(MORE, 0, 4));
        CHECK.answers("ELEMENT is not made of a", 10, () -> v.pattern(ELEMENT, 4, 0));
        CHECK.answers("ATTRIBUTE is not made of a", 11, () -> v.pattern(ATTRIBUTE, 4, 0));
        CHECK.answers("DEFINITION is not made of b", 12, () -> v.pattern(DEFINITION, 3, 4));
        for (int below = 9; below <= 11; below++) {
            int asked = below;
            CHECK.answers("depth 2 under depth 3", 13 + 3 * (below - 9), () -> v.pattern(MORE, asked, 0));
            CHECK.answers("depth 3 under depth 4", 14 + 3 * (below - 9), () -> v.pattern(MORE, v.count(0) - 1, 0));
            CHECK.answers("depth 4 under depth 5", 15 + 3 * (below - 9), () -> v.pattern(MORE, v.count(0) - 1, 0));
            CHECK.refuses("depth 5 under depth 6", STATE, v, () -> v.pattern(MORE, v.count(0) - 1, 0));
        }
        CHECK.answers("depth 1 under depth 2", 22, () -> v.pattern(MORE, 12, 0));
    }

    /** Makes one of this kind that names deep ones to no use, and four upon it: the number of the last. */
    private static int fourUpon(int kind) {
        PatternValidator v = new PatternValidator();
        towerOfFive(v);
        int below = v.pattern(kind, 4, 4);
        for (int i = 0; i < 4; i++) {
            below = v.pattern(MORE, below, 4);
        }
        return below;
    }

    private static void depthOfADefinitionIsNotThatOfItsPattern() {
        PatternValidator v = new PatternValidator();
        towerOfFive(v);
        v.define(2, 4);
        CHECK.answers("a definition that has one of depth 5", 5, () -> v.pattern(DEFINITION, 2, 0));
        for (int i = 5; i < 9; i++) {
            int below = i;
            CHECK.answers("upon it, depth " + (i - 3), below + 1, () -> v.pattern(MORE, below, 0));
        }
        CHECK.refuses("upon it, depth 6", STATE, v, () -> v.pattern(MORE, 9, 0));
        CHECK.answers("one of depth 5 upon a definition may be given", 1, () -> v.define(1, 9));
    }

    private static void kindNotZeroToTen() {
        int[] wrong = {LEAST, -1, 11, GREATEST};
        for (int kind : wrong) {
            TWINS.refuses("kind " + kind + ", new object", ARGUMENT, v -> { }, v -> v.pattern(kind, 0, 0));
            TWINS.refuses("kind " + kind, ARGUMENT, PatternEdgesTest::towerOfFive, v -> v.pattern(kind, 0, 0));
        }
        PatternValidator v = new PatternValidator();
        CHECK.answers("kind 0, the least", 0, () -> v.pattern(0, 0, 0));
        CHECK.answers("kind 10, the greatest", 1, () -> v.pattern(10, 0, 0));
    }

    private static void patternsThatWereNotMade() {
        int[] wrong = {LEAST, -1, 5, 39, 40, GREATEST};
        for (int asked : wrong) {
            for (int i = 4; i <= 6; i++) {
                int kind = i;
                String what = "kind " + kind + ", pattern " + asked;
                Twins.Scene five = PatternEdgesTest::towerOfFive;
                TWINS.refuses(what + " as a", ARGUMENT, five, v -> v.pattern(kind, asked, 0));
                TWINS.refuses(what + " as b", ARGUMENT, five, v -> v.pattern(kind, 0, asked));
                TWINS.refuses(what + " as both", ARGUMENT, five, v -> v.pattern(kind, asked, asked));
            }
            TWINS.refuses("MORE, pattern " + asked, ARGUMENT, PatternEdgesTest::towerOfFive,
                    v -> v.pattern(MORE, asked, 0));
            for (int i = ELEMENT; i <= ATTRIBUTE; i++) {
                int kind = i;
                TWINS.refuses("kind " + kind + ", pattern " + asked, ARGUMENT, PatternEdgesTest::towerOfFive,
                        v -> v.pattern(kind, 0, asked));
            }
        }
        for (int i = 4; i <= 9; i++) {
            int kind = i;
            TWINS.refuses("kind " + kind + ", no pattern was made", ARGUMENT, v -> { }, v -> v.pattern(kind, 0, 0));
        }
    }

    private static void patternsThatWereMade() {
        for (int i = 4; i <= 9; i++) {
            int kind = i;
            PatternValidator v = new PatternValidator();
            v.pattern(TEXT, 0, 0);
            CHECK.answers("kind " + kind + " of the only one", 1, () -> v.pattern(kind, argumentA(kind, 0), 0));
            CHECK.answers("kind " + kind + " of the last one", 2, () -> v.pattern(kind, argumentA(kind, 1), 1));
            CHECK.answers("kind " + kind + " of the first one", 3, () -> v.pattern(kind, argumentA(kind, 0), 0));
            CHECK.refuses("kind " + kind + " of itself", ARGUMENT, v, () -> v.pattern(kind, argumentA(kind, 4), 4));
        }
        PatternValidator v = new PatternValidator();
        for (int i = 0; i < 39; i++) {
            v.pattern(TEXT, 0, 0);
        }
        CHECK.answers("the 40th of the 39th", 39, () -> v.pattern(4, 38, 38));
    }

    private static void nameNotZeroToSix() {
        int[] wrong = {LEAST, -1, 7, GREATEST};
        for (int kind = ELEMENT; kind <= ATTRIBUTE; kind++) {
            int asked = kind;
            for (int name : wrong) {
                TWINS.refuses("kind " + kind + ", name " + name, ARGUMENT, PatternEdgesTest::towerOfFive,
                        v -> v.pattern(asked, name, 0));
            }
            PatternValidator v = new PatternValidator();
            v.pattern(TEXT, 0, 0);
            for (int i = 0; i <= 6; i++) {
                int name = i;
                CHECK.answers("kind " + kind + ", name " + name, name + 1, () -> v.pattern(asked, name, 0));
            }
        }
    }

    private static void definitionNotZeroToThree() {
        int[] wrong = {LEAST, -1, 4, GREATEST};
        for (int definition : wrong) {
            TWINS.refuses("DEFINITION " + definition, ARGUMENT, PatternEdgesTest::towerOfFive,
                    v -> v.pattern(DEFINITION, definition, 0));
            TWINS.refuses("DEFINITION " + definition + ", new object", ARGUMENT, v -> { },
                    v -> v.pattern(DEFINITION, definition, 0));
        }
        PatternValidator v = new PatternValidator();
        for (int i = 0; i <= 3; i++) {
            int definition = i;
            CHECK.answers("DEFINITION " + i, definition, () -> v.pattern(DEFINITION, definition, 0));
        }
    }

    private static void whatAKindHasNoUseForMayBeAnything() {
        int[] free = {LEAST, -1, 0, 1, 7, 40, GREATEST};
        int[] nullable = {1, 0, 1};
        for (int value : free) {
            PatternValidator v = new PatternValidator();
            for (int i = 0; i <= 2; i++) {
                int kind = i;
                CHECK.answers("kind " + kind + ", " + value, kind, () -> v.pattern(kind, value, value));
                CHECK.answers("it is the same", nullable[kind], () -> v.nullable(kind));
            }
            CHECK.answers("MORE, b " + value, 3, () -> v.pattern(MORE, 0, value));
            CHECK.answers("it is the same", 1, () -> v.nullable(3));
            CHECK.answers("DEFINITION, b " + value, 4, () -> v.pattern(DEFINITION, 1, value));
            v.define(1, 2);
            CHECK.answers("it is the same", 1, () -> v.nullable(4));
            CHECK.answers("NUMBER, a " + value, 5, () -> v.pattern(3, value, 0));
            CHECK.answers("NUMBER, b " + value, 6, () -> v.pattern(3, 0, value));
        }
    }

    private static void argumentIsTestedBeforeForty() {
        Twins.Scene full = PatternEdgesTest::fortyPatterns;
        int[] wrong = {LEAST, -1, 40, GREATEST};
        for (int asked : wrong) {
            TWINS.refuses("40 made, kind " + asked, ARGUMENT, full, v -> v.pattern(asked, 0, 0));
            for (int i = 4; i <= 6; i++) {
                int kind = i;
                TWINS.refuses("40 made, kind " + kind + ", a " + asked, ARGUMENT, full, v -> v.pattern(kind, asked, 0));
                TWINS.refuses("40 made, kind " + kind + ", b " + asked, ARGUMENT, full, v -> v.pattern(kind, 0, asked));
            }
            TWINS.refuses("40 made, MORE, a " + asked, ARGUMENT, full, v -> v.pattern(MORE, asked, 0));
            for (int i = ELEMENT; i <= ATTRIBUTE; i++) {
                int kind = i;
                TWINS.refuses("40 made, kind " + kind + ", b " + asked, ARGUMENT, full, v -> v.pattern(kind, 0, asked));
                TWINS.refuses("40 made, kind " + kind + ", a " + asked, ARGUMENT, full, v -> v.pattern(kind, asked, 0));
            }
            TWINS.refuses("40 made, DEFINITION " + asked, ARGUMENT, full, v -> v.pattern(DEFINITION, asked, 0));
        }
        TWINS.refuses("40 made, kind 11", ARGUMENT, full, v -> v.pattern(11, 0, 0));
        TWINS.refuses("40 made, ELEMENT 7", ARGUMENT, full, v -> v.pattern(ELEMENT, 7, 0));
        TWINS.refuses("40 made, ATTRIBUTE 7", ARGUMENT, full, v -> v.pattern(ATTRIBUTE, 7, 0));
        TWINS.refuses("40 made, DEFINITION 4", ARGUMENT, full, v -> v.pattern(DEFINITION, 4, 0));
    }

    private static void argumentIsTestedBeforeDepth() {
        Twins.Scene five = PatternEdgesTest::towerOfFive;
        int[] wrong = {LEAST, -1, 5, GREATEST};
        for (int asked : wrong) {
            for (int i = 4; i <= 6; i++) {
                int kind = i;
                String what = "too deep, kind " + kind + ", pattern " + asked;
                TWINS.refuses(what + " as b", ARGUMENT, five, v -> v.pattern(kind, 4, asked));
                TWINS.refuses(what + " as a", ARGUMENT, five, v -> v.pattern(kind, asked, 4));
            }
        }
        for (int i = ELEMENT; i <= ATTRIBUTE; i++) {
            int kind = i;
            TWINS.refuses("too deep, kind " + kind + ", name -1", ARGUMENT, five, v -> v.pattern(kind, -1, 4));
            TWINS.refuses("too deep, kind " + kind + ", name 7", ARGUMENT, five, v -> v.pattern(kind, 7, 4));
        }
        TWINS.refuses("wrong kind beside deep ones", ARGUMENT, five, v -> v.pattern(11, 4, 4));
    }

    private static void fortyAndDepthAtOnce() {
        for (int i = 4; i <= 9; i++) {
            int kind = i;
            TWINS.refuses("40 made and too deep, kind " + kind, STATE, PatternEdgesTest::fortyPatterns,
                    v -> v.pattern(kind, argumentA(kind, 4), 4));
        }
    }

    private static void givesOneIfItHadNone() {
        PatternValidator v = new PatternValidator();
        v.pattern(TEXT, 0, 0);
        for (int i = 0; i <= 3; i++) {
            int definition = i;
            CHECK.answers("definition " + i + " had none", 1, () -> v.define(definition, 0));
            CHECK.answers("how many are given", definition + 1, () -> v.count(1));
        }
        for (int i = 0; i <= 3; i++) {
            int definition = i;
            CHECK.answers("definition " + i + " had one", 0, () -> v.define(definition, 0));
        }
        CHECK.answers("no more than four", 4, () -> v.count(1));
        v.clear();
        CHECK.answers("clear takes none away", 0, () -> v.define(0, 0));
    }

    private static void givesInPlaceOfTheOneThatItHas() {
        PatternValidator v = new PatternValidator();
        int none = v.pattern(1, 0, 0);
        int text = v.pattern(TEXT, 0, 0);
        int[] meant = new int[4];
        for (int i = 0; i <= 3; i++) {
            meant[i] = v.pattern(DEFINITION, i, 0);
        }
        for (int i = 0; i <= 3; i++) {
            int definition = i;
            v.define(definition, text);
            for (int k = 0; k <= 3; k++) {
                int asked = k;
                CHECK.answers("only definition " + i + " has it, asked " + k, asked == definition ? 1 : 0,
                        () -> v.nullable(meant[asked]));
            }
            v.define(definition, none);
            CHECK.answers("the new one is in its place", 0, () -> v.nullable(meant[definition]));
        }
    }

    private static void oneGiven(PatternValidator v) {
        v.pattern(TEXT, 0, 0);
        v.pattern(1, 0, 0);
        v.pattern(DEFINITION, 0, 0);
        v.pattern(DEFINITION, 1, 0);
        v.define(0, 0);
    }

    private static void defineOutsideZeroToThree() {
        int[] wrong = {LEAST, -1, 4, GREATEST};
        for (int definition : wrong) {
            TWINS.refuses("define " + definition, ARGUMENT, PatternEdgesTest::oneGiven, v -> v.define(definition, 1));
        }
    }

    private static void defineNoSuchPattern() {
        int[] wrong = {LEAST, -1, 4, 39, 40, GREATEST};
        for (int pattern : wrong) {
            TWINS.refuses("define one that has one, pattern " + pattern, MISSING, PatternEdgesTest::oneGiven,
                    v -> v.define(0, pattern));
            TWINS.refuses("define one that has none, pattern " + pattern, MISSING, PatternEdgesTest::oneGiven,
                    v -> v.define(1, pattern));
        }
        TWINS.refuses("define, no pattern was made", MISSING, v -> { }, v -> v.define(0, 0));
        TWINS.refuses("define, the 41st", MISSING, PatternEdgesTest::fortyPatterns, v -> v.define(3, 40));
        PatternValidator v = new PatternValidator();
        fortyPatterns(v);
        CHECK.answers("define, the first", 1, () -> v.define(3, 0));
        CHECK.answers("define, the 40th", 0, () -> v.define(3, 39));
    }

    private static void defineOrderOfTesting() {
        int[] wrong = {LEAST, -1, 4, GREATEST};
        for (int definition : wrong) {
            TWINS.refuses("define " + definition + ", nor is there the pattern", ARGUMENT, v -> { },
                    v -> v.define(definition, 0));
            TWINS.refuses("define " + definition + ", pattern -1", ARGUMENT, PatternEdgesTest::oneGiven,
                    v -> v.define(definition, -1));
            TWINS.refuses("define " + definition + ", pattern 4", ARGUMENT, PatternEdgesTest::oneGiven,
                    v -> v.define(definition, 4));
            TWINS.refuses("define " + definition + ", a DEFINITION", ARGUMENT, PatternEdgesTest::oneGiven,
                    v -> v.define(definition, 2));
        }
    }

    private static void comesToItself() {
        for (int i = 0; i <= 3; i++) {
            int definition = i;
            for (int k = 0; k <= 3; k++) {
                int other = k;
                Twins.Scene scene = v -> {
                    v.pattern(TEXT, 0, 0);
                    v.pattern(DEFINITION, other, 0);
                };
                if (definition == other) {
                    TWINS.refuses("define " + i + " by itself", UNSUPPORTED, scene, v -> v.define(definition, 1));
                    TWINS.refuses("define " + i + " by itself in place of another", UNSUPPORTED, v -> {
                        scene.play(v);
                        v.define(definition, 0);
                    }, v -> v.define(definition, 1));
                } else {
                    PatternValidator v = new PatternValidator();
                    scene.play(v);
                    CHECK.answers("define " + i + " by " + k, 1, () -> v.define(definition, 1));
                }
            }
        }
    }

    /** 0 is TEXT and 1 the DEFINITION 0; upon them stand one, and a second one upon that. */
    private static Twins.Scene uponDefinition(int kind, int a, int b, boolean second) {
        return v -> {
            v.pattern(TEXT, 0, 0);
            v.pattern(DEFINITION, 0, 0);
            v.pattern(kind, a, b);
            if (second) {
                v.pattern(MORE, 2, 0);
            }
        };
    }

    private static void comesToByWhatItIsMadeOf() {
        int[][] made = {
            {4, 1, 0}, {4, 0, 1}, {4, 1, 1}, {5, 1, 0}, {5, 0, 1}, {5, 1, 1}, {6, 1, 0}, {6, 0, 1}, {6, 1, 1},
            {7, 1, 0}, {9, 0, 1}, {9, 5, 1}, {9, 6, 1},
        };
        for (int[] one : made) {
            String what = "kind " + one[0] + " of " + one[1] + ", " + one[2];
            TWINS.refuses(what, UNSUPPORTED, uponDefinition(one[0], one[1], one[2], false), v -> v.define(0, 2));
            TWINS.refuses(what + ", one level more", UNSUPPORTED, uponDefinition(one[0], one[1], one[2], true),
                    v -> v.define(0, 3));
            PatternValidator v = new PatternValidator();
            uponDefinition(one[0], one[1], one[2], false).play(v);
            CHECK.answers(what + ", given to another", 1, () -> v.define(1, 2));
            CHECK.answers(what + ", it had none before", 1, () -> v.define(0, 0));
        }
    }

    private static void comesNotByTheContentOfAnElement() {
        for (int i = 0; i <= 6; i++) {
            int name = i;
            PatternValidator v = new PatternValidator();
            uponDefinition(ELEMENT, name, 1, true).play(v);
            CHECK.answers("ELEMENT " + name, 1, () -> v.define(0, 2));
            CHECK.answers("MORE of an ELEMENT " + name, 0, () -> v.define(0, 3));
        }
        TWINS.refuses("an ELEMENT beside the definition", UNSUPPORTED, v -> {
            uponDefinition(ELEMENT, 0, 1, false).play(v);
            v.pattern(4, 2, 1);
        }, v -> v.define(0, 3));
        PatternValidator v = new PatternValidator();
        uponDefinition(4, 1, 1, false).play(v);
        v.pattern(ELEMENT, 0, 2);
        v.pattern(ATTRIBUTE, 0, 3);
        CHECK.answers("deeper in the content", 1, () -> v.define(0, 3));
        CHECK.answers("an ATTRIBUTE of such an ELEMENT", 0, () -> v.define(0, 4));
    }

    private static void comesNotByWhatAKindHasNoUseFor() {
        PatternValidator v = new PatternValidator();
        int meant = v.pattern(DEFINITION, 0, 0);
        v.pattern(TEXT, 0, 0);
        int[] free = {
            v.pattern(0, meant, meant), v.pattern(1, meant, meant), v.pattern(2, meant, meant),
            v.pattern(3, meant, meant), v.pattern(MORE, 1, meant), v.pattern(ATTRIBUTE, meant, 1),
            v.pattern(ELEMENT, meant, 1), v.pattern(DEFINITION, 1, meant),
        };
        for (int i = 0; i < free.length; i++) {
            int pattern = free[i];
            CHECK.answers("define by one that names 0 to no use, " + i, i == 0 ? 1 : 0, () -> v.define(0, pattern));
        }
    }

    private static void comesToByADefinition() {
        Twins.Scene scene = v -> {
            for (int i = 0; i <= 3; i++) {
                v.pattern(DEFINITION, i, 0);
            }
            v.pattern(TEXT, 0, 0);
            v.pattern(ELEMENT, 0, 0);
            v.define(1, 0);
        };
        TWINS.refuses("by 1, which comes to 0", UNSUPPORTED, scene, v -> v.define(0, 1));
        TWINS.refuses("by 1, in place of another", UNSUPPORTED, v -> {
            scene.play(v);
            v.define(0, 4);
        }, v -> v.define(0, 1));
        TWINS.refuses("1 by itself", UNSUPPORTED, scene, v -> v.define(1, 1));
        PatternValidator v = new PatternValidator();
        scene.play(v);
        CHECK.answers("1 by 0, which is given nothing", 0, () -> v.define(1, 0));
        CHECK.answers("2 by 1", 1, () -> v.define(2, 1));
        CHECK.answers("1 by an ELEMENT of 0", 0, () -> v.define(1, 5));
        CHECK.answers("0 by 1, the round goes through an ELEMENT", 1, () -> v.define(0, 1));
        CHECK.answers("0 by 2, likewise", 0, () -> v.define(0, 2));
    }

    /** Each definition is given one of depth 5 that ends in the next one; 20 to 24 are upon the first. */
    private static void longestChain(PatternValidator v, int kind) {
        for (int definition = 0; definition <= 4; definition++) {
            int asked = (definition + 1) % 5;
            int deep = asked == 4 ? v.pattern(TEXT, 0, 0) : v.pattern(DEFINITION, asked, 0);
            for (int depth = 2; depth <= 5; depth++) {
                deep = v.pattern(kind, argumentA(kind, deep), deep);
            }
            if (definition < 4) {
                v.define(definition, deep);
            }
        }
    }

    private static void comesToByTheLongestChain() {
        int[] kinds = {4, 5, 6, MORE, ATTRIBUTE};
        for (int kind : kinds) {
            for (int i = 0; i <= 3; i++) {
                int definition = i;
                for (int k = 20; k <= 24; k++) {
                    int pattern = k;
                    TWINS.refuses("define " + i + " by the longest chain of kind " + kind, UNSUPPORTED,
                            v -> longestChain(v, kind), v -> v.define(definition, pattern));
                }
            }
            PatternValidator v = new PatternValidator();
            longestChain(v, kind);
            CHECK.answers("the end of the chain comes to none", 0, () -> v.define(0, 19));
            CHECK.answers("so the end may come to the start", 0, () -> v.define(3, 24));
        }
    }

    private static void comesToAsTheDefinitionsAreNow() {
        Twins.Scene scene = v -> {
            v.pattern(DEFINITION, 0, 0);
            v.pattern(DEFINITION, 1, 0);
            v.pattern(TEXT, 0, 0);
            v.define(1, 2);
        };
        PatternValidator v = new PatternValidator();
        scene.play(v);
        CHECK.answers("0 by 1", 1, () -> v.define(0, 1));
        CHECK.refuses("then not 1 by 0", UNSUPPORTED, v, () -> v.define(1, 0));
        CHECK.answers("1 kept what it had", 1, () -> v.nullable(1));
        CHECK.answers("0 by another", 0, () -> v.define(0, 2));
        CHECK.answers("then 1 by 0", 0, () -> v.define(1, 0));
        CHECK.refuses("then not 0 by 1", UNSUPPORTED, v, () -> v.define(0, 1));
    }
}
