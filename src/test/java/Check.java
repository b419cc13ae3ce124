/** What the tests of the project share: checks that count and print what is not as due. */
final class Check {
    interface Call {
        int run();
    }

    private int done;
    private int wrong;

    void answers(String what, int due, Call call) {
        done++;
        String got = told(call);
        if (!got.equals(String.valueOf(due))) {
            report(what, got, String.valueOf(due));
        }
    }

    /** The call must throw exactly this, and leave all counts of the validator as they were. */
    void refuses(String what, Class<? extends RuntimeException> due, PatternValidator validator, Call call) {
        done++;
        String before = counts(validator);
        String got = told(call);
        if (!got.equals(due.getSimpleName())) {
            report(what, got, due.getSimpleName());
        }
        String after = counts(validator);
        if (!after.equals(before)) {
            report(what.concat(", counts afterwards"), after, before);
        }
    }

    void same(String what, String due, String got) {
        done++;
        if (!got.equals(due)) {
            report(what, got, due);
        }
    }

    void holds(String what, boolean asDue) {
        done++;
        if (!asDue) {
            report(what, "no", "yes");
        }
    }

    /** The answer, or the simple name of what was thrown. */
    static String told(Call call) {
        try {
            return String.valueOf(call.run());
        } catch (RuntimeException thrown) {
            return thrown.getClass().getSimpleName();
        }
    }

    void end() {
        System.out.println(done + " checks, " + wrong + " not as due");
        if (wrong != 0 || done == 0) {
            System.exit(1);
        }
    }

    private void report(String what, String got, String due) {
        wrong++;
        System.out.println(what + ": got " + got + ", due is " + due);
    }

    private static String counts(PatternValidator validator) {
        StringBuilder all = new StringBuilder();
        for (int what = 0; what <= 5; what++) {
            all.append(validator.count(what)).append(' ');
        }
        return all.toString();
    }
}
