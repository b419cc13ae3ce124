/**
 * Two objects with the same calls behind them, one of which was then refused a call: since a call
 * that throws changes nothing, no later call may tell them apart.
 */
final class Twins {
    /** Calls that bring a new object into a state. */
    interface Scene {
        void play(PatternValidator v);
    }

    interface Ask {
        int of(PatternValidator v);
    }

    /** Calls that tell one state from another, with all their answers as a text. */
    private interface Probe {
        String answers(PatternValidator v);
    }

    private static final Probe[] PROBES = {
        Twins::counts, Twins::asksOfNothing,
        Twins::addsAttributes, Twins::addsTexts, Twins::opens, Twins::closes, Twins::clears,
        Twins::makesPatterns, Twins::buildsUpwards, Twins::gives,
    };

    private final Check check;

    Twins(Check check) {
        this.check = check;
    }

    void refuses(String what, Class<? extends RuntimeException> due, Scene scene, Ask call) {
        PatternValidator first = played(scene);
        check.same(what, due.getSimpleName(), Check.told(() -> call.of(first)));
        for (int i = 0; i < PROBES.length; i++) {
            compare(what + ", later calls " + i, scene, call, PROBES[i]);
        }
        int nodes = played(scene).count(2);
        for (int i = 0; i < nodes; i++) {
            int node = i;
            compare(what + ", node " + node, scene, call, v -> asksOfNode(v, node));
        }
    }

    private void compare(String what, Scene scene, Ask call, Probe probe) {
        PatternValidator refused = played(scene);
        Check.told(() -> call.of(refused));
        check.same(what, probe.answers(played(scene)), probe.answers(refused));
    }

    private static PatternValidator played(Scene scene) {
        PatternValidator v = new PatternValidator();
        scene.play(v);
        return v;
    }

    private static String counts(PatternValidator v) {
        StringBuilder all = new StringBuilder();
        for (int what = 0; what <= 5; what++) {
            all.append(v.count(what)).append(' ');
        }
        return all.toString();
    }

    private static void tell(StringBuilder all, Check.Call call) {
        all.append(Check.told(call)).append(' ');
    }

    private static String asksOfNothing(PatternValidator v) {
        StringBuilder all = new StringBuilder();
        int patterns = v.count(0);
        for (int i = 0; i < patterns; i++) {
            int pattern = i;
            tell(all, () -> v.nullable(pattern));
            tell(all, () -> v.find(pattern));
        }
        return all.toString();
    }

    private static String asksOfNode(PatternValidator v, int node) {
        StringBuilder all = new StringBuilder();
        int patterns = v.count(0);
        for (int i = 0; i < patterns; i++) {
            int pattern = i;
            tell(all, () -> v.matches(pattern, node));
            tell(all, () -> v.content(pattern, node));
            tell(all, () -> v.longest(pattern, node));
        }
        return all.toString();
    }

    private static String addsAttributes(PatternValidator v) {
        StringBuilder all = new StringBuilder();
        for (int i = 0; i <= 5; i++) {
            int name = i;
            tell(all, () -> v.attribute(name, name));
        }
        return all.append(counts(v)).append(asksOfNothing(v)).toString();
    }

    private static String addsTexts(PatternValidator v) {
        StringBuilder all = new StringBuilder();
        for (int i = 0; i <= 6; i++) {
            int value = i;
            tell(all, () -> v.text(value));
        }
        return all.append(counts(v)).append(asksOfNothing(v)).toString();
    }

    private static String opens(PatternValidator v) {
        StringBuilder all = new StringBuilder();
        for (int i = 0; i <= 4; i++) {
            int name = i;
            tell(all, () -> v.open(name));
        }
        for (int i = 0; i <= 6; i++) {
            tell(all, v::close);
            tell(all, () -> v.open(5));
        }
        return all.append(counts(v)).append(asksOfNothing(v)).toString();
    }

    private static String closes(PatternValidator v) {
        StringBuilder all = new StringBuilder();
        for (int i = 0; i <= 4; i++) {
            tell(all, v::close);
            all.append(counts(v));
        }
        return all.append(asksOfNothing(v)).toString();
    }

    private static String clears(PatternValidator v) {
        StringBuilder all = new StringBuilder();
        tell(all, v::clear);
        all.append(counts(v));
        tell(all, () -> v.open(0));
        return all.append(asksOfNode(v, 0)).toString();
    }

    private static String makesPatterns(PatternValidator v) {
        StringBuilder all = new StringBuilder();
        for (int i = 0; i <= 40; i++) {
            tell(all, () -> v.pattern(0, 0, 0));
        }
        return all.toString();
    }

    /** One upon each pattern that is there, and one upon that: so their depths are told. */
    private static String buildsUpwards(PatternValidator v) {
        StringBuilder all = new StringBuilder();
        for (int i = 0; i < 40; i++) {
            int below = i;
            tell(all, () -> v.pattern(7, below, 0));
        }
        return all.append(asksOfNothing(v)).toString();
    }

    private static String gives(PatternValidator v) {
        StringBuilder all = new StringBuilder();
        int patterns = v.count(0);
        for (int i = 0; i < 4; i++) {
            int definition = i;
            for (int k = 0; k < patterns; k++) {
                int pattern = k;
                tell(all, () -> v.define(definition, pattern));
            }
        }
        return all.append(counts(v)).toString();
    }
}
