/** Long runs of mixed calls, each answered as the reference answers it; all promises at once. */
public final class ReferenceTest {
    private static final int RUNS = 1500;
    private static final int CALLS = 511;

    private final PatternValidator validator = new PatternValidator();
    private final Reference reference = new Reference();
    private final Check check;
    private final int run;
    private long state;
    private int calls;

    private ReferenceTest(Check check, int run) {
        this.check = check;
        this.run = run;
        this.state = run * 0x9E3779B97F4A7C15L + 1;
    }

    public static void main(String[] args) {
        Check check = new Check();
        for (int run = 0; run < RUNS; run++) {
            if (run % 2 == 0) {
                new ReferenceTest(check, run).go();
            } else {
                new ReferenceTest(check, run).goNarrow();
            }
        }
        check.end();
    }

    /** A run changes between building patterns, building a document and asking. */
    private void go() {
        while (calls < CALLS) {
            int phase = below(8);
            int length = 1 + below(12);
            for (int i = 0; i < length && calls < CALLS; i++) {
                if (phase < 2) {
                    makePattern();
                } else if (phase < 5) {
                    build();
                } else {
                    ask();
                }
            }
        }
    }

    /** Few names and values, so that patterns with many parts match quite often. */
    private void goNarrow() {
        make(3, 1, 1);
        make(3, 1, 2);
        make(9, 6, below(2));
        make(8, 6, below(2));
        make(10, below(4), 0);
        make(9, below(2), 1);
        for (int i = 0; i < 20; i++) {
            int kind = below(3) == 0 ? 7 : 4 + below(5);
            make(kind, kind == 8 ? 6 : below(6 + i), below(6 + i));
        }
        while (calls < CALLS - 40) {
            giveDefinition(below(4), below(reference.count(0)));
            layOut();
            for (int i = 0; i < 20; i++) {
                askFor(i % 4, below(reference.count(0)), below(2) == 0 ? 0 : below(reference.count(2)));
            }
        }
    }

    private void layOut() {
        same("clear()", validator::clear, reference::clear);
        openOne(0);
        for (int i = below(4); i > 0; i--) {
            addAttribute(i, 1 + below(2));
        }
        for (int i = below(7); i > 0; i--) {
            if (below(3) == 0) {
                openOne(i % 2);
                addText(1 + below(2));
                same("close()", validator::close, reference::close);
            } else {
                addText(1 + below(2));
            }
        }
    }

    private void make(int kind, int a, int b) {
        same("pattern(" + kind + ", " + a + ", " + b + ")",
                () -> validator.pattern(kind, a, b), () -> reference.pattern(kind, a, b));
    }

    private void giveDefinition(int definition, int pattern) {
        same("define(" + definition + ", " + pattern + ")",
                () -> validator.define(definition, pattern), () -> reference.define(definition, pattern));
    }

    private void openOne(int name) {
        same("open(" + name + ")", () -> validator.open(name), () -> reference.open(name));
    }

    private void addAttribute(int name, int value) {
        same("attribute(" + name + ", " + value + ")",
                () -> validator.attribute(name, value), () -> reference.attribute(name, value));
    }

    private void addText(int value) {
        same("text(" + value + ")", () -> validator.text(value), () -> reference.text(value));
    }

    private void same(String what, Check.Call got, Check.Call due) {
        calls++;
        String answered = Check.told(got);
        String expected = Check.told(due);
        check.holds("run " + run + ", call " + calls + ", " + what + " answered " + answered
                + ", the reference " + expected, answered.equals(expected));
    }

    private void makePattern() {
        int most = reference.count(0);
        if (below(5) == 0) {
            giveDefinition(wild(4), wild(most));
            return;
        }
        int kind = most < 4 ? below(4) : wild(11);
        if (kind == 3) {
            int least = value();
            make(kind, least, below(4) == 0 ? value() : least + below(3));
            return;
        }
        int a = kind == 8 || kind == 9 ? name() : kind == 10 ? wild(4) : wild(most);
        make(kind, a, wild(most));
    }

    private void build() {
        int which = below(12);
        if (which < 4) {
            openOne(below(20) == 0 ? wild(6) : below(2));
        } else if (which < 6) {
            addAttribute(wild(6), value());
        } else if (which < 9) {
            addText(value());
        } else if (which == 9 || reference.count(3) > 1) {
            same("close()", validator::close, reference::close);
        } else if (below(6) == 0) {
            same("clear()", validator::clear, reference::clear);
        }
    }

    private void ask() {
        askFor(below(6), wild(reference.count(0)), wild(reference.count(2)));
    }

    private void askFor(int call, int pattern, int node) {
        switch (call) {
            case 0:
                same("matches(" + pattern + ", " + node + ")",
                        () -> validator.matches(pattern, node), () -> reference.matches(pattern, node));
                break;
            case 1:
                same("content(" + pattern + ", " + node + ")",
                        () -> validator.content(pattern, node), () -> reference.content(pattern, node));
                break;
            case 2:
                same("longest(" + pattern + ", " + node + ")",
                        () -> validator.longest(pattern, node), () -> reference.longest(pattern, node));
                break;
            case 3:
                same("find(" + pattern + ")", () -> validator.find(pattern), () -> reference.find(pattern));
                break;
            case 4:
                same("nullable(" + pattern + ")", () -> validator.nullable(pattern), () -> reference.nullable(pattern));
                break;
            default:
                int what = wild(6);
                same("count(" + what + ")", () -> validator.count(what), () -> reference.count(what));
        }
    }

    private int name() {
        return below(3) == 0 ? wild(7) : below(2) == 0 ? 6 : below(2);
    }

    /** Mostly one of 0 .. many - 1, now and then one just or far outside. */
    private int wild(int many) {
        int chance = below(80);
        if (chance < 2) {
            return chance == 0 ? Integer.MIN_VALUE : Integer.MAX_VALUE;
        }
        return chance < 4 ? -1 : chance < 6 || many == 0 ? many : below(many);
    }

    private int value() {
        int chance = below(40);
        return chance == 0 ? Integer.MIN_VALUE : chance == 1 ? Integer.MAX_VALUE : below(4);
    }

    private int below(int bound) {
        state = state * 6364136223846793005L + 1442695040888963407L;
        return (int) ((state >>> 33) % bound);
    }
}
