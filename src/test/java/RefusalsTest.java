/** All promises: the least and the greatest of each argument, those beyond, and what a refusal leaves. */
public final class RefusalsTest {
    private static final Checks CHECKS = new Checks();

    /** A method of the face with its arguments in a row. */
    interface Method {
        long call(PictureProof proof, int[] a);
    }

    public static void main(String[] args) {
        Method paint = (p, a) -> p.paint(a[0], a[1], a[2], a[3], a[4], a[5]);
        edges("paint", paint, new int[] {0, 0, 0, 8, 8, 0}, new int[][] {{0, 4}, {0, 0}, {0, 0}, {1, 8}, {1, 8}, {0, 255}});
        edges("paint", paint, new int[] {4, 7, 7, 1, 1, 255}, new int[][] {{0, 4}, {0, 7}, {0, 7}, {1, 1}, {1, 1}, {0, 255}});
        edges("paint", paint, new int[] {2, 3, 2, 2, 3, 9}, new int[][] {{0, 4}, {0, 6}, {0, 5}, {1, 5}, {1, 6}, {0, 255}});
        edges("shade", (p, a) -> p.shade(a[0], a[1], a[2]), new int[] {0, 0, 7}, new int[][] {{0, 4}, {0, 7}, {0, 7}});
        Method setPart = (p, a) -> {
            p.setPart(a[0], a[1], a[2], a[3], a[4]);
            return 0;
        };
        edges("setPart", setPart, new int[] {0, 0, 0, 8, 8}, new int[][] {{0, 4}, {0, 0}, {0, 0}, {1, 8}, {1, 8}});
        edges("setPart", setPart, new int[] {4, 7, 7, 1, 1}, new int[][] {{0, 4}, {0, 7}, {0, 7}, {1, 1}, {1, 1}});
        edges("setPart", setPart, new int[] {3, 3, 2, 2, 3}, new int[][] {{0, 4}, {0, 6}, {0, 5}, {1, 5}, {1, 6}});
        edges("setMask", (p, a) -> {
            p.setMask(a[0], a[1], a[2], a[3], a[4]);
            return 0;
        }, new int[] {0, 8, 8, 1, 1}, new int[][] {{0, 4}, {-8, 8}, {-8, 8}, {1, 8}, {1, 8}});
        int[][] branchAndTest = {{0, 3}, {0, 4}};
        edges("approve", (p, a) -> Checks.number(p.approve(a[0], a[1])), new int[] {0, 0}, branchAndTest);
        edges("isApproved", (p, a) -> Checks.number(p.isApproved(a[0], a[1])), new int[] {3, 4}, branchAndTest);
        edges("begin", (p, a) -> p.begin(a[0]), new int[] {2}, new int[][] {{1, 3}});
        edges("join", (p, a) -> p.join(a[0]), new int[] {2}, new int[][] {{1, 3}});
        int[][] comparison = {{0, 3}, {0, 4}, {0, 255}};
        int[] some = {0, 0, 10};
        edges("differences", (p, a) -> p.differences(a[0], a[1], a[2]), some, comparison);
        edges("firstDifference", (p, a) -> p.firstDifference(a[0], a[1], a[2]), some, comparison);
        edges("move", (p, a) -> p.move(a[0], a[1], a[2]), some, comparison);
        edges("soft", (p, a) -> p.soft(a[0], a[1], a[2]), some, comparison);
        edges("run", (p, a) -> Checks.number(p.run(a[0], a[1], a[2])), some, comparison);
        edges("runs", (p, a) -> p.runs(a[0]), new int[] {0}, new int[][] {{0, 4}});
        edges("doubt", (p, a) -> p.doubt(a[0]), new int[] {4}, new int[][] {{0, 4}});
        statesAreRefused();
        CHECKS.end("RefusalsTest");
    }

    private static void edges(String name, Method method, int[] valid, int[][] ranges) {
        for (int i = 0; i < valid.length; i++) {
            for (int value : ranges[i]) {
                int[] a = with(valid, i, value);
                long answer = Checks.answer(used(), p -> method.call(p, a));
                CHECKS.same(name + " takes " + value + " as argument " + i, answer > Checks.REFUSED_OTHERWISE, true);
            }
            int[] beyond = {ranges[i][0] - 1, ranges[i][1] + 1, Integer.MIN_VALUE, Integer.MAX_VALUE};
            for (int value : beyond) {
                int[] a = with(valid, i, value);
                String what = name + " with " + value + " as argument " + i;
                refused(what, used(), used(), p -> method.call(p, a), Checks.REFUSED_ARGUMENT);
                // On a new object a wrong state comes together with the wrong argument.
                refused(what, new PictureProof(), new PictureProof(), p -> method.call(p, a), Checks.REFUSED_ARGUMENT);
            }
        }
    }

    private static int[] with(int[] valid, int i, int value) {
        int[] a = valid.clone();
        a[i] = value;
        return a;
    }

    private static void statesAreRefused() {
        for (int branch = 0; branch < 4; branch++) {
            for (int test = 0; test < 5; test++) {
                int b = branch;
                int t = test;
                refusedAsNew("differences", p -> p.differences(b, t, 0));
                refusedAsNew("firstDifference", p -> p.firstDifference(b, t, 0));
                refusedAsNew("move", p -> p.move(b, t, 0));
                refusedAsNew("soft", p -> p.soft(b, t, 0));
                refusedAsNew("run", p -> Checks.number(p.run(b, t, 0)));
                refusedAsNew("setMask", p -> {
                    p.setMask(t, 0, 0, 1, 1);
                    return 0;
                });
            }
        }
    }

    private static void refusedAsNew(String what, Checks.Call call) {
        refused(what + " of a new object", new PictureProof(), new PictureProof(), call, Checks.REFUSED_STATE);
    }

    /** Calls on one of two objects that are alike: it is refused, and both answer alike behind it. */
    private static void refused(String what, PictureProof one, PictureProof other, Checks.Call call, long due) {
        CHECKS.same(what, Checks.answer(one, call), due);
        CHECKS.same(what + " leaves all as it was", answers(one), answers(other));
    }

    /** All tests have a part, a mask, a history and approved pictures in all branches, one to clash. */
    private static PictureProof used() {
        PictureProof proof = new PictureProof();
        for (int test = 0; test < 5; test++) {
            proof.paint(test, 2, 2, 3, 2, 40 + test);
            for (int branch = 0; branch < 4; branch++) {
                proof.approve(branch, test);
            }
            proof.paint(test, 4, 2, 2, 2, 90);
            proof.setPart(test, 2, 2, 2, 1);
            proof.setMask(test, 1, 1, 2, 2);
            proof.run(0, test, 0);
            proof.run(0, test, 255);
        }
        proof.begin(1);
        proof.approve(1, 3);
        proof.paint(3, 0, 0, 1, 1, 200);
        proof.approve(0, 3);
        return proof;
    }

    /** What the calls of the face answer, one after the other, joins at last. */
    private static String answers(PictureProof proof) {
        StringBuilder answers = new StringBuilder();
        for (int cell = 0; cell < 64; cell++) {
            answers.append(proof.shade(cell % 5, cell % 8, cell / 8)).append(' ');
        }
        for (int test = 0; test < 5; test++) {
            int t = test;
            answers.append(proof.runs(t)).append(' ').append(proof.doubt(t)).append(' ');
            for (int branch = 0; branch < 4; branch++) {
                int b = branch;
                answers.append(proof.isApproved(b, t)).append(' ');
                answers.append(Checks.answer(proof, p -> p.differences(b, t, 5))).append(' ');
                answers.append(Checks.answer(proof, p -> p.firstDifference(b, t, 0))).append(' ');
                answers.append(Checks.answer(proof, p -> p.move(b, t, 0))).append(' ');
                answers.append(Checks.answer(proof, p -> p.soft(b, t, 0))).append(' ');
            }
        }
        for (int branch = 1; branch < 4; branch++) {
            answers.append(proof.join(branch)).append(' ');
        }
        return answers.toString();
    }
}
