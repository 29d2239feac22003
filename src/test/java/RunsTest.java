/** Promises 14 to 16: run, runs, doubt. */
public final class RunsTest {
    private static final Checks CHECKS = new Checks();

    public static void main(String[] args) {
        runPassesWithoutADifference();
        runIsByTheBoundAndTheBranch();
        runsCountsUpToTen();
        doubtOfFewResults();
        doubtIsRoundedDown();
        doubtForgetsOldResults();
        historiesAreOfTheTest();
        aRefusedRunIsNoResult();
        CHECKS.end("RunsTest");
    }

    /** Approved is 0 and the picture is 100: by 100 it passes, and by 99 it does not. */
    private static PictureProof ready(int test) {
        PictureProof proof = new PictureProof();
        proof.approve(0, test);
        proof.paint(test, 0, 0, 8, 8, 100);
        return proof;
    }

    private static void runAll(PictureProof proof, int test, String results) {
        for (int i = 0; i < results.length(); i++) {
            boolean passes = results.charAt(i) == '+';
            CHECKS.same("run", proof.run(0, test, passes ? 100 : 99), passes);
        }
    }

    private static void runPassesWithoutADifference() {
        PictureProof proof = new PictureProof();
        proof.approve(0, 0);
        CHECKS.same("run of the same", proof.run(0, 0, 0), true);
        proof.paint(0, 7, 7, 1, 1, 50);
        CHECKS.same("run of a soft cell", proof.run(0, 0, 0), true);
        proof.approve(0, 0);
        proof.paint(0, 7, 7, 1, 1, 0);
        CHECKS.same("run with one difference", proof.run(0, 0, 0), false);
        proof.setPart(0, 7, 7, 1, 1);
        proof.setMask(0, 0, 0, 1, 1);
        CHECKS.same("run with it masked", proof.run(0, 0, 0), true);
        CHECKS.same("run by 255", ready(1).run(0, 1, 255), true);
        CHECKS.same("run by 0", ready(1).run(0, 1, 0), false);
    }

    private static void runIsByTheBoundAndTheBranch() {
        PictureProof proof = ready(2);
        proof.approve(3, 2);
        CHECKS.same("run by 99", proof.run(0, 2, 99), false);
        CHECKS.same("run by 100", proof.run(0, 2, 100), true);
        CHECKS.same("run of another branch", proof.run(3, 2, 0), true);
        CHECKS.same("run of the branch 0", proof.run(0, 2, 0), false);
        CHECKS.same("runs of all branches", proof.runs(2), 4);
        CHECKS.same("doubt over all branches", proof.doubt(2), 66);
    }

    private static void runsCountsUpToTen() {
        PictureProof proof = ready(0);
        for (int count = 0; count < 25; count++) {
            CHECKS.same("runs", proof.runs(0), Math.min(count, 10));
            runAll(proof, 0, count % 3 == 0 ? "-" : "+");
        }
        CHECKS.same("runs behind 25", proof.runs(0), 10);
    }

    private static void doubt(String results, int due) {
        PictureProof proof = ready(0);
        runAll(proof, 0, results);
        CHECKS.same("doubt of " + results, proof.doubt(0), due);
    }

    private static void doubtOfFewResults() {
        doubt("", 0);
        doubt("+", 0);
        doubt("-", 0);
        doubt("++", 0);
        doubt("--", 0);
        doubt("+-", 100);
        doubt("-+", 100);
    }

    private static void doubtIsRoundedDown() {
        doubt("+--", 50);
        doubt("+-+", 100);
        doubt("--++", 33);
        doubt("-+--", 66);
        doubt("-++++++", 16);
        doubt("-+-+++++", 42);
        doubt("-+-+-+-+-+", 100);
        doubt("-++++++++-", 22);
        doubt("----------", 0);
    }

    private static void doubtForgetsOldResults() {
        doubt("-++++++++++", 0);
        doubt("-+++++++++", 11);
        doubt("+-+++++++++", 11);
        doubt("-+-++++++++++", 0);
        doubt("++++++++++-", 11);
        doubt("++++++++++-+", 22);
        doubt("-+-+-+-+-+-+-+-+-+-", 100);
        doubt("-+-+-+-+-+----------", 0);
        doubt("-+-+-+-+-+---------", 11);
    }

    private static void historiesAreOfTheTest() {
        PictureProof proof = ready(0);
        proof.approve(0, 4);
        proof.paint(4, 0, 0, 8, 8, 100);
        runAll(proof, 0, "+-+");
        runAll(proof, 4, "++");
        CHECKS.same("runs of 0", proof.runs(0), 3);
        CHECKS.same("runs of 4", proof.runs(4), 2);
        CHECKS.same("doubt of 0", proof.doubt(0), 100);
        CHECKS.same("doubt of 4", proof.doubt(4), 0);
        CHECKS.same("runs of 1", proof.runs(1), 0);
        proof.approve(0, 0);
        proof.begin(1);
        proof.join(1);
        proof.setPart(0, 0, 0, 1, 1);
        proof.differences(0, 0, 0);
        CHECKS.same("runs behind other calls", proof.runs(0), 3);
        CHECKS.same("doubt behind other calls", proof.doubt(0), 100);
    }

    private static void aRefusedRunIsNoResult() {
        PictureProof proof = ready(0);
        runAll(proof, 0, "+-");
        CHECKS.refusesState("run without approved", proof, p -> Checks.number(p.run(1, 0, 0)));
        CHECKS.refusesArgument("run by 256", proof, p -> Checks.number(p.run(0, 0, 256)));
        CHECKS.same("runs behind", proof.runs(0), 2);
        CHECKS.same("doubt behind", proof.doubt(0), 100);
    }
}
