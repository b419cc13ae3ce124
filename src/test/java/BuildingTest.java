import java.util.NoSuchElementException;

/** Promises 1 to 8 and 14: a new object, the making of patterns and documents, and the counts. */
public final class BuildingTest {
    private static final Class<IllegalArgumentException> ARGUMENT = IllegalArgumentException.class;
    private static final Class<IllegalStateException> STATE = IllegalStateException.class;
    private static final Class<NoSuchElementException> MISSING = NoSuchElementException.class;
    private static final Class<UnsupportedOperationException> UNSUPPORTED = UnsupportedOperationException.class;

    private static final Check CHECK = new Check();

    private BuildingTest() {
    }

    public static void main(String[] args) {
        promise1NewObject();
        promise2Numbers();
        promise2Arguments();
        promise2Depth();
        promise2Most();
        promise3Answers();
        promise3Refusals();
        promise3ComesTo();
        promise4Open();
        promise4Limits();
        promise5Attribute();
        promise6Text();
        promise7Close();
        promise8Clear();
        promise14Count();
        CHECK.end();
    }

    private static void counts(String what, PatternValidator v, int... due) {
        for (int i = 0; i < due.length; i++) {
            int asked = i;
            CHECK.answers(what + ": count(" + i + ")", due[i], () -> v.count(asked));
        }
    }

    private static void promise1NewObject() {
        PatternValidator v = new PatternValidator();
        counts("1: new", v, 0, 0, 0, 0, -1, -1);
        CHECK.refuses("1: no pattern", MISSING, v, () -> v.nullable(0));
        CHECK.refuses("1: none is open", STATE, v, v::close);
        CHECK.answers("1: nothing to take away", 0, v::clear);
        PatternValidator other = new PatternValidator();
        other.pattern(0, 0, 0);
        other.define(0, 0);
        other.open(3);
        counts("1: objects stand alone", v, 0, 0, 0, 0, -1, -1);
    }

    private static void promise2Numbers() {
        PatternValidator v = new PatternValidator();
        CHECK.answers("2: EMPTY, a and b free", 0, () -> v.pattern(0, -7, 99));
        CHECK.answers("2: NONE, a and b free", 1, () -> v.pattern(1, Integer.MIN_VALUE, Integer.MAX_VALUE));
        CHECK.answers("2: TEXT, a and b free", 2, () -> v.pattern(2, 40, -1));
        CHECK.answers("2: NUMBER, any ints", 3, () -> v.pattern(3, 9, -9));
        CHECK.answers("2: GROUP", 4, () -> v.pattern(4, 0, 3));
        CHECK.answers("2: INTERLEAVE", 5, () -> v.pattern(5, 4, 0));
        CHECK.answers("2: CHOICE", 6, () -> v.pattern(6, 2, 2));
        CHECK.answers("2: MORE, b free", 7, () -> v.pattern(7, 6, -1));
        CHECK.answers("2: ELEMENT, any name", 8, () -> v.pattern(8, 6, 7));
        CHECK.answers("2: ATTRIBUTE, any name", 9, () -> v.pattern(9, 6, 8));
        CHECK.answers("2: DEFINITION, b free", 10, () -> v.pattern(10, 3, -1));
        CHECK.answers("2: ELEMENT, name 0", 11, () -> v.pattern(8, 0, 10));
        CHECK.answers("2: ATTRIBUTE, name 0", 12, () -> v.pattern(9, 0, 10));
        CHECK.answers("2: DEFINITION 0", 13, () -> v.pattern(10, 0, 40));
        CHECK.answers("2: how many", 14, () -> v.count(0));
    }

    private static void promise2Arguments() {
        PatternValidator v = new PatternValidator();
        for (int kind = 4; kind <= 9; kind++) {
            int asked = kind;
            CHECK.refuses("2: kind " + kind + " without patterns", ARGUMENT, v, () -> v.pattern(asked, 0, 0));
        }
        v.pattern(0, 0, 0);
        CHECK.refuses("2: kind -1", ARGUMENT, v, () -> v.pattern(-1, 0, 0));
        CHECK.refuses("2: kind 11", ARGUMENT, v, () -> v.pattern(11, 0, 0));
        for (int kind = 4; kind <= 6; kind++) {
            int asked = kind;
            CHECK.refuses("2: kind " + kind + ", a not made", ARGUMENT, v, () -> v.pattern(asked, 1, 0));
            CHECK.refuses("2: kind " + kind + ", b not made", ARGUMENT, v, () -> v.pattern(asked, 0, 1));
            CHECK.refuses("2: kind " + kind + ", a below 0", ARGUMENT, v, () -> v.pattern(asked, -1, 0));
            CHECK.refuses("2: kind " + kind + ", b below 0", ARGUMENT, v, () -> v.pattern(asked, 0, -1));
        }
        CHECK.refuses("2: MORE, a not made", ARGUMENT, v, () -> v.pattern(7, 1, 0));
        CHECK.refuses("2: MORE, a below 0", ARGUMENT, v, () -> v.pattern(7, -1, 0));
        for (int kind = 8; kind <= 9; kind++) {
            int asked = kind;
            CHECK.refuses("2: kind " + kind + ", b not made", ARGUMENT, v, () -> v.pattern(asked, 0, 1));
            CHECK.refuses("2: kind " + kind + ", b below 0", ARGUMENT, v, () -> v.pattern(asked, 0, -1));
            CHECK.refuses("2: kind " + kind + ", name 7", ARGUMENT, v, () -> v.pattern(asked, 7, 0));
            CHECK.refuses("2: kind " + kind + ", name -1", ARGUMENT, v, () -> v.pattern(asked, -1, 0));
        }
        CHECK.refuses("2: definition 4", ARGUMENT, v, () -> v.pattern(10, 4, 0));
        CHECK.refuses("2: definition -1", ARGUMENT, v, () -> v.pattern(10, -1, 0));
        CHECK.answers("2: the next number after refusals", 1, () -> v.pattern(7, 0, 0));
    }

    private static void promise2Depth() {
        for (int kind = 4; kind <= 9; kind++) {
            PatternValidator v = new PatternValidator();
            v.pattern(2, 0, 0);
            for (int depth = 2; depth <= 5; depth++) {
                int below = depth - 2;
                int asked = kind;
                int a = kind >= 8 ? 6 : below;
                CHECK.answers("2: kind " + kind + " of depth " + depth, depth - 1, () -> v.pattern(asked, a, below));
            }
            for (int above = 4; above <= 9; above++) {
                int asked = above;
                int a = above >= 8 ? 6 : 4;
                CHECK.refuses("2: kind " + above + " above kind " + kind + " of depth 5", STATE, v,
                        () -> v.pattern(asked, a, 4));
            }
            for (int pair = 4; pair <= 6; pair++) {
                int asked = pair;
                CHECK.refuses("2: kind " + pair + ", depth by a", STATE, v, () -> v.pattern(asked, 4, 0));
                CHECK.refuses("2: kind " + pair + ", depth by b", STATE, v, () -> v.pattern(asked, 0, 4));
            }
            CHECK.refuses("2: wrong pattern before depth", ARGUMENT, v, () -> v.pattern(4, 4, 5));
            CHECK.answers("2: a definition has depth 1", 5, () -> v.pattern(10, 0, 4));
            v.define(0, 4);
            CHECK.answers("2: whatever it was given", 6, () -> v.pattern(7, 5, 0));
        }
    }

    private static void promise2Most() {
        PatternValidator v = new PatternValidator();
        for (int i = 0; i < 40; i++) {
            int due = i;
            CHECK.answers("2: pattern " + i, due, () -> v.pattern(due % 4, 0, 0));
        }
        CHECK.refuses("2: the 41st", STATE, v, () -> v.pattern(0, 0, 0));
        CHECK.refuses("2: the 41st, made of others", STATE, v, () -> v.pattern(4, 39, 0));
        CHECK.refuses("2: wrong argument before the 41st", ARGUMENT, v, () -> v.pattern(4, 40, 0));
        CHECK.refuses("2: wrong kind before the 41st", ARGUMENT, v, () -> v.pattern(11, 0, 0));
        CHECK.answers("2: the last is there", 0, () -> v.nullable(39));
    }

    private static void promise3Answers() {
        PatternValidator v = new PatternValidator();
        int empty = v.pattern(0, 0, 0);
        int none = v.pattern(1, 0, 0);
        int meant = v.pattern(10, 2, 0);
        CHECK.answers("3: nothing is meant before", 0, () -> v.nullable(meant));
        CHECK.answers("3: had none", 1, () -> v.define(2, empty));
        CHECK.answers("3: means it", 1, () -> v.nullable(meant));
        CHECK.answers("3: had one", 0, () -> v.define(2, none));
        CHECK.answers("3: in place of it", 0, () -> v.nullable(meant));
        CHECK.answers("3: had one, the same", 0, () -> v.define(2, none));
        CHECK.answers("3: one is given", 1, () -> v.count(1));
        CHECK.answers("3: definition 0", 1, () -> v.define(0, empty));
        CHECK.answers("3: definition 3", 1, () -> v.define(3, empty));
        CHECK.answers("3: three are given", 3, () -> v.count(1));
    }

    private static void promise3Refusals() {
        PatternValidator v = new PatternValidator();
        CHECK.refuses("3: definition -1", ARGUMENT, v, () -> v.define(-1, 0));
        CHECK.refuses("3: definition 4, no pattern either", ARGUMENT, v, () -> v.define(4, 0));
        CHECK.refuses("3: no pattern", MISSING, v, () -> v.define(0, 0));
        int self = v.pattern(10, 0, 0);
        int empty = v.pattern(0, 0, 0);
        CHECK.refuses("3: pattern -1", MISSING, v, () -> v.define(0, -1));
        CHECK.refuses("3: pattern 2", MISSING, v, () -> v.define(0, 2));
        CHECK.refuses("3: itself", UNSUPPORTED, v, () -> v.define(0, self));
        v.define(0, empty);
        CHECK.refuses("3: itself, with one given", UNSUPPORTED, v, () -> v.define(0, self));
        CHECK.answers("3: keeps what it had", 1, () -> v.nullable(self));
        CHECK.answers("3: another may have it", 1, () -> v.define(1, self));
    }

    private static void promise3ComesTo() {
        PatternValidator v = new PatternValidator();
        int self = v.pattern(10, 0, 0);
        int empty = v.pattern(0, 0, 0);
        for (int kind = 4; kind <= 6; kind++) {
            int byFirst = v.pattern(kind, self, empty);
            int bySecond = v.pattern(kind, empty, self);
            CHECK.refuses("3: kind " + kind + " by a", UNSUPPORTED, v, () -> v.define(0, byFirst));
            CHECK.refuses("3: kind " + kind + " by b", UNSUPPORTED, v, () -> v.define(0, bySecond));
        }
        int more = v.pattern(7, self, 0);
        CHECK.refuses("3: MORE", UNSUPPORTED, v, () -> v.define(0, more));
        int attribute = v.pattern(9, 0, self);
        CHECK.refuses("3: the value of an ATTRIBUTE", UNSUPPORTED, v, () -> v.define(0, attribute));
        int element = v.pattern(8, 0, self);
        int deeper = v.pattern(7, element, 0);
        CHECK.answers("3: not the content of an ELEMENT", 1, () -> v.define(0, element));
        CHECK.answers("3: nor deeper", 0, () -> v.define(0, deeper));
        int number = v.pattern(3, 0, 0);
        CHECK.answers("3: numbers that look like a definition", 0, () -> v.define(0, number));
        promise3ComesToByOthers();
    }

    private static void promise3ComesToByOthers() {
        PatternValidator v = new PatternValidator();
        int[] meant = new int[4];
        for (int i = 0; i < 4; i++) {
            meant[i] = v.pattern(10, i, 0);
        }
        CHECK.answers("3: 0 by 1", 1, () -> v.define(0, meant[1]));
        CHECK.answers("3: 1 by 2", 1, () -> v.define(1, v.pattern(7, meant[2], 0)));
        CHECK.answers("3: 2 by 3", 1, () -> v.define(2, meant[3]));
        for (int i = 0; i < 4; i++) {
            int asked = i;
            CHECK.refuses("3: round by " + i, UNSUPPORTED, v, () -> v.define(3, meant[asked]));
        }
        int element = v.pattern(8, 0, meant[0]);
        CHECK.answers("3: round through an element", 1, () -> v.define(3, element));
        CHECK.answers("3: the round opened elsewhere", 0, () -> v.define(1, element));
        CHECK.answers("3: and closed no more", 0, () -> v.define(3, meant[0]));
        CHECK.refuses("3: but here", UNSUPPORTED, v, () -> v.define(1, meant[3]));
    }

    private static void promise4Open() {
        PatternValidator v = new PatternValidator();
        CHECK.refuses("4: name -1", ARGUMENT, v, () -> v.open(-1));
        CHECK.refuses("4: name 6", ARGUMENT, v, () -> v.open(6));
        CHECK.answers("4: the top", 0, () -> v.open(5));
        counts("4: the top is open", v, 0, 0, 1, 1, 5, 0);
        CHECK.answers("4: in it", 1, () -> v.open(0));
        counts("4: the child is open", v, 0, 0, 2, 2, 0, 1);
        v.close();
        CHECK.answers("4: in it again", 2, () -> v.open(4));
        v.close();
        v.close();
        CHECK.refuses("4: the top is closed", STATE, v, () -> v.open(0));
        CHECK.refuses("4: wrong name before that", ARGUMENT, v, () -> v.open(6));
        int text = v.pattern(2, 0, 0);
        int first = v.pattern(8, 0, text);
        int second = v.pattern(8, 4, text);
        int both = v.pattern(4, first, second);
        CHECK.answers("4: children of the top, in order", 1, () -> v.content(both, 0));
    }

    private static void promise4Limits() {
        PatternValidator deep = new PatternValidator();
        for (int i = 0; i < 4; i++) {
            int due = i;
            CHECK.answers("4: deep " + i, due, () -> deep.open(1));
        }
        CHECK.refuses("4: the fifth one deep", STATE, deep, () -> deep.open(1));
        CHECK.answers("4: it has no child", 1, () -> deep.text(0));

        PatternValidator wide = new PatternValidator();
        wide.open(0);
        for (int i = 1; i <= 6; i++) {
            int due = i;
            CHECK.answers("4: child " + i, due, () -> wide.open(1));
            wide.close();
        }
        CHECK.refuses("4: the seventh child", STATE, wide, () -> wide.open(1));

        PatternValidator mixed = new PatternValidator();
        mixed.open(0);
        for (int i = 0; i < 6; i++) {
            mixed.text(i);
        }
        CHECK.refuses("4: behind six texts", STATE, mixed, () -> mixed.open(1));

        PatternValidator full = new PatternValidator();
        fillNodes(full);
        CHECK.answers("4: 16 nodes", 16, () -> full.count(2));
        CHECK.refuses("4: the 17th node", STATE, full, () -> full.open(0));
        CHECK.answers("4: the last is there", 0, () -> full.matches(full.pattern(0, 0, 0), 15));
    }

    /** Three children of the top with four children each: 16 nodes, the third of the three left open. */
    private static void fillNodes(PatternValidator v) {
        v.open(0);
        for (int i = 0; i < 3; i++) {
            v.open(1);
            for (int k = 0; k < 4; k++) {
                v.open(2);
                v.close();
            }
            if (i < 2) {
                v.close();
            }
        }
    }

    private static void promise5Attribute() {
        PatternValidator v = new PatternValidator();
        CHECK.refuses("5: none is open", STATE, v, () -> v.attribute(0, 1));
        CHECK.refuses("5: wrong name before that", ARGUMENT, v, () -> v.attribute(6, 1));
        v.open(0);
        CHECK.refuses("5: name -1", ARGUMENT, v, () -> v.attribute(-1, 1));
        CHECK.refuses("5: name 6", ARGUMENT, v, () -> v.attribute(6, 1));
        CHECK.answers("5: the first", 1, () -> v.attribute(5, Integer.MAX_VALUE));
        CHECK.refuses("5: such an attribute is there", STATE, v, () -> v.attribute(5, 2));
        CHECK.answers("5: the second", 2, () -> v.attribute(0, Integer.MIN_VALUE));
        CHECK.answers("5: the third", 3, () -> v.attribute(3, 0));
        CHECK.refuses("5: the fourth", STATE, v, () -> v.attribute(1, 0));
        int greatest = v.pattern(9, 5, v.pattern(3, Integer.MAX_VALUE, Integer.MAX_VALUE));
        int least = v.pattern(9, 0, v.pattern(3, Integer.MIN_VALUE, Integer.MIN_VALUE));
        int zero = v.pattern(9, 3, v.pattern(3, 0, 0));
        int all = v.pattern(4, v.pattern(4, zero, least), greatest);
        CHECK.answers("5: with their values", 1, () -> v.content(all, 0));
        v.open(1);
        CHECK.answers("5: a child has its own", 1, () -> v.attribute(5, 1));
        v.close();
        CHECK.refuses("5: the top is not empty now", STATE, v, () -> v.attribute(2, 2));
        v.close();
        CHECK.refuses("5: closed", STATE, v, () -> v.attribute(1, 1));

        PatternValidator texted = new PatternValidator();
        texted.open(0);
        texted.text(1);
        CHECK.refuses("5: behind a text", STATE, texted, () -> texted.attribute(1, 1));
        CHECK.refuses("5: wrong name behind a text", ARGUMENT, texted, () -> texted.attribute(9, 1));

        PatternValidator parent = new PatternValidator();
        parent.open(0);
        parent.open(0);
        parent.close();
        CHECK.refuses("5: behind an element", STATE, parent, () -> parent.attribute(1, 1));
    }

    private static void promise6Text() {
        PatternValidator v = new PatternValidator();
        CHECK.refuses("6: none is open", STATE, v, () -> v.text(0));
        v.open(0);
        CHECK.answers("6: the first", 1, () -> v.text(Integer.MIN_VALUE));
        v.open(1);
        CHECK.answers("6: in the child", 1, () -> v.text(8));
        v.close();
        CHECK.answers("6: elements count too", 3, () -> v.text(Integer.MAX_VALUE));
        CHECK.answers("6: the fourth", 4, () -> v.text(1));
        CHECK.answers("6: the fifth", 5, () -> v.text(1));
        CHECK.answers("6: the sixth", 6, () -> v.text(1));
        CHECK.refuses("6: the seventh", STATE, v, () -> v.text(1));
        int one = v.pattern(3, 1, 1);
        int least = v.pattern(3, Integer.MIN_VALUE, Integer.MIN_VALUE);
        int greatest = v.pattern(3, Integer.MAX_VALUE, Integer.MAX_VALUE);
        int child = v.pattern(8, 1, v.pattern(3, 8, 8));
        int start = v.pattern(4, v.pattern(4, least, child), greatest);
        int all = v.pattern(4, start, v.pattern(7, one, 0));
        CHECK.answers("6: with their values, in order", 1, () -> v.content(all, 0));
        v.close();
        CHECK.refuses("6: closed", STATE, v, () -> v.text(0));
    }

    private static void promise7Close() {
        PatternValidator v = new PatternValidator();
        CHECK.refuses("7: none is open", STATE, v, v::close);
        v.open(3);
        v.open(4);
        CHECK.answers("7: the last", 1, v::close);
        counts("7: the top is the last", v, 0, 0, 2, 1, 3, 0);
        v.open(5);
        CHECK.answers("7: the next", 2, v::close);
        CHECK.answers("7: the top", 0, v::close);
        counts("7: none is open now", v, 0, 0, 3, 0, -1, -1);
        CHECK.refuses("7: once more", STATE, v, v::close);
    }

    private static void promise8Clear() {
        PatternValidator v = new PatternValidator();
        CHECK.answers("8: nothing there", 0, v::clear);
        int text = v.pattern(2, 0, 0);
        v.define(1, text);
        v.open(2);
        v.attribute(0, 1);
        v.open(3);
        v.text(1);
        CHECK.answers("8: open ones", 2, v::clear);
        counts("8: patterns and definitions stay", v, 1, 1, 0, 0, -1, -1);
        CHECK.refuses("8: no node now", MISSING, v, () -> v.content(text, 0));
        CHECK.refuses("8: none is open now", STATE, v, v::close);
        CHECK.answers("8: a new top", 0, () -> v.open(4));
        CHECK.answers("8: without the old attributes and children", 1, () -> v.content(v.pattern(0, 0, 0), 0));
        CHECK.answers("8: takes the same attribute", 1, () -> v.attribute(0, 1));
        v.close();
        CHECK.answers("8: closed ones", 1, v::clear);
        CHECK.answers("8: again nothing", 0, v::clear);
        fillNodes(v);
        CHECK.answers("8: all 16", 16, v::clear);
    }

    private static void promise14Count() {
        PatternValidator v = new PatternValidator();
        CHECK.refuses("14: -1", ARGUMENT, v, () -> v.count(-1));
        CHECK.refuses("14: 6", ARGUMENT, v, () -> v.count(6));
        CHECK.refuses("14: far off", ARGUMENT, v, () -> v.count(Integer.MIN_VALUE));
        v.pattern(0, 0, 0);
        v.pattern(0, 0, 0);
        v.pattern(0, 0, 0);
        v.define(3, 1);
        v.define(0, 1);
        v.define(3, 2);
        v.open(2);
        v.open(5);
        v.close();
        v.open(0);
        v.open(4);
        counts("14: in the midst", v, 3, 2, 4, 3, 4, 3);
        v.close();
        counts("14: the node open last is not the last opened", v, 3, 2, 4, 2, 0, 2);
        v.text(7);
        counts("14: texts are no nodes", v, 3, 2, 4, 2, 0, 2);
        v.close();
        v.close();
        counts("14: all closed", v, 3, 2, 4, 0, -1, -1);
    }
}
