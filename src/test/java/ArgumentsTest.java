/** All promises: arguments in and out of range together, on an object with all states and on a bare one. */
public final class ArgumentsTest {
    private static final Checks CHECKS = new Checks();
    private static final int LEAST = Integer.MIN_VALUE;
    private static final int MOST = Integer.MAX_VALUE;
    private static final int[] PLACES = {LEAST, LEAST + 7, -1, 0, 3, 7, 8, MOST - 7, MOST};
    private static final int[] SIZES = {LEAST, -1, 0, 1, 4, 5, 8, 9, MOST};
    private static final int[] SHADES = {LEAST, -1, 0, 128, 255, 256, MOST};
    private static final int[] BRANCHES = {LEAST, -1, 0, 1, 2, 3, 4, 5, MOST};
    private static final int[] TESTS = {LEAST, -1, 0, 1, 2, 3, 4, 5, 6, MOST};
    private static final int[] FEW_TESTS = {LEAST, -1, 0, 4, 5, MOST};
    private static final int[] DISTANCES = {LEAST, -9, -8, 0, 8, 9, MOST};

    /** A method of the face with its arguments in a row. */
    interface Method {
        long call(PictureProof proof, int[] a);
    }

    /** What the document allows; told in long, so that nothing wraps around. */
    interface Ranges {
        boolean allow(int[] a);
    }

    private PictureProof full = withAllStates();
    private PictureProof bare = new PictureProof();
    private int calls;

    public static void main(String[] args) {
        ArgumentsTest test = new ArgumentsTest();
        test.pictures();
        test.branches();
        test.comparing();
        test.runs();
        CHECKS.end("ArgumentsTest");
    }

    private static boolean in(long value, long least, long most) {
        return value >= least && value <= most;
    }

    private static boolean rectangle(int[] a) {
        return in(a[0], 0, 4) && in(a[1], 0, 7) && in(a[2], 0, 7)
                && in(a[3], 1, 8L - a[1]) && in(a[4], 1, 8L - a[2]);
    }

    private static boolean branchAndTest(int[] a) {
        return in(a[0], 0, 3) && in(a[1], 0, 4);
    }

    private void pictures() {
        every("paint", false, (p, a) -> p.paint(a[0], a[1], a[2], a[3], a[4], a[5]),
                a -> rectangle(a) && in(a[5], 0, 255), FEW_TESTS, PLACES, PLACES, SIZES, SIZES, SHADES);
        every("shade", false, (p, a) -> p.shade(a[0], a[1], a[2]),
                a -> in(a[0], 0, 4) && in(a[1], 0, 7) && in(a[2], 0, 7), TESTS, PLACES, PLACES);
        every("setPart", false, (p, a) -> {
            p.setPart(a[0], a[1], a[2], a[3], a[4]);
            return 0;
        }, ArgumentsTest::rectangle, TESTS, PLACES, PLACES, SIZES, SIZES);
        bare = new PictureProof();
        every("setMask", true, (p, a) -> {
            p.setMask(a[0], a[1], a[2], a[3], a[4]);
            return 0;
        }, a -> in(a[0], 0, 4) && in(a[1], -8, 8) && in(a[2], -8, 8) && in(a[3], 1, 8) && in(a[4], 1, 8),
                TESTS, DISTANCES, DISTANCES, SIZES, SIZES);
    }

    private void branches() {
        every("isApproved", false, (p, a) -> Checks.number(p.isApproved(a[0], a[1])),
                ArgumentsTest::branchAndTest, BRANCHES, TESTS);
        every("begin", false, (p, a) -> p.begin(a[0]), a -> in(a[0], 1, 3), BRANCHES);
        every("join", false, (p, a) -> p.join(a[0]), a -> in(a[0], 1, 3), BRANCHES);
        every("approve", false, (p, a) -> Checks.number(p.approve(a[0], a[1])),
                ArgumentsTest::branchAndTest, BRANCHES, TESTS);
        bare = new PictureProof();
    }

    private void comparing() {
        compare("differences", (p, a) -> p.differences(a[0], a[1], a[2]));
        compare("firstDifference", (p, a) -> p.firstDifference(a[0], a[1], a[2]));
        compare("move", (p, a) -> p.move(a[0], a[1], a[2]));
        compare("soft", (p, a) -> p.soft(a[0], a[1], a[2]));
    }

    private void compare(String name, Method method) {
        every(name, true, method, a -> branchAndTest(a) && in(a[2], 0, 255), BRANCHES, TESTS, SHADES);
    }

    private void runs() {
        compare("run", (p, a) -> Checks.number(p.run(a[0], a[1], a[2])));
        every("runs", false, (p, a) -> p.runs(a[0]), a -> in(a[0], 0, 4), TESTS);
        every("doubt", false, (p, a) -> p.doubt(a[0]), a -> in(a[0], 0, 4), TESTS);
    }

    private static PictureProof withAllStates() {
        PictureProof proof = new PictureProof();
        for (int test = 0; test < 5; test++) {
            proof.setPart(test, 2, 2, 2, 2);
            for (int branch = 0; branch < 4; branch++) {
                proof.approve(branch, test);
            }
        }
        return proof;
    }

    /** Each value of each argument with each of all others. */
    private void every(String name, boolean needsState, Method method, Ranges ranges, int[]... values) {
        int[] at = new int[values.length];
        int place = 0;
        while (place < at.length) {
            int[] a = new int[at.length];
            for (int i = 0; i < a.length; i++) {
                a[i] = values[i][at[i]];
            }
            one(name, needsState, method, ranges, a);
            place = 0;
            while (place < at.length && ++at[place] == values[place].length) {
                at[place] = 0;
                place++;
            }
        }
    }

    private void one(String name, boolean needsState, Method method, Ranges ranges, int[] a) {
        renew();
        long onFull = Checks.answer(full, p -> method.call(p, a));
        long onBare = Checks.answer(bare, p -> method.call(p, a));
        boolean allowed = ranges.allow(a);
        // A wrong argument goes ahead of a wrong state.
        long due = allowed ? 0 : Checks.REFUSED_ARGUMENT;
        long dueOnBare = allowed && needsState ? Checks.REFUSED_STATE : due;
        CHECKS.same(name + java.util.Arrays.toString(a), refusal(onFull), due);
        CHECKS.same(name + java.util.Arrays.toString(a) + " on a bare object", refusal(onBare), dueOnBare);
    }

    private static long refusal(long answer) {
        return answer <= Checks.REFUSED_OTHERWISE ? answer : 0;
    }

    private void renew() {
        calls++;
        if (calls % 400 == 0) {
            full = withAllStates();
            bare = new PictureProof();
        }
    }
}
