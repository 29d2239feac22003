/** Counts the answers of one test that are not as due. */
final class Checks {
    /** A call on a new or a used object; a boolean counts 1 or 0, a call without an answer 0. */
    interface Call {
        long on(PictureProof proof);
    }

    static final long REFUSED_ARGUMENT = Long.MIN_VALUE;
    static final long REFUSED_STATE = Long.MIN_VALUE + 1;
    static final long REFUSED_OTHERWISE = Long.MIN_VALUE + 2;

    private int made;
    private int wrong;

    void same(String what, long got, long due) {
        made++;
        if (got != due) {
            wrong++;
            if (wrong <= 20) {
                System.out.println(what + ": answered " + text(got) + ", due is " + text(due));
            }
        }
    }

    void same(String what, String got, String due) {
        made++;
        if (!got.equals(due)) {
            wrong++;
            System.out.println(what + ": answered " + got + ", due is " + due);
        }
    }

    void same(String what, boolean got, boolean due) {
        same(what, got ? 1 : 0, due ? 1 : 0);
    }

    void refusesArgument(String what, PictureProof proof, Call call) {
        same(what, answer(proof, call), REFUSED_ARGUMENT);
    }

    void refusesState(String what, PictureProof proof, Call call) {
        same(what, answer(proof, call), REFUSED_STATE);
    }

    /** The answer of a call, or a number that stands for what it threw. */
    static long answer(PictureProof proof, Call call) {
        try {
            return call.on(proof);
        } catch (RuntimeException thrown) {
            if (thrown.getClass() == IllegalArgumentException.class) {
                return REFUSED_ARGUMENT;
            }
            return thrown.getClass() == IllegalStateException.class
                    ? REFUSED_STATE : REFUSED_OTHERWISE;
        }
    }

    static long number(boolean answer) {
        return answer ? 1 : 0;
    }

    static String text(long answer) {
        if (answer == REFUSED_ARGUMENT) {
            return "IllegalArgumentException";
        }
        if (answer == REFUSED_STATE) {
            return "IllegalStateException";
        }
        return answer == REFUSED_OTHERWISE ? "another exception" : Long.toString(answer);
    }

    void end(String name) {
        System.out.println(name + ": " + made + " checks, " + wrong + " wrong");
        if (wrong != 0 || made == 0) {
            System.exit(1);
        }
    }
}
