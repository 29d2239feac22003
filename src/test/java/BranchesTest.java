/** Promises 6 to 9: approve, begin, join, isApproved. */
public final class BranchesTest {
    private static final Checks CHECKS = new Checks();

    public static void main(String[] args) {
        approveTellsWhetherThereWasOne();
        approvedIsThePictureAsItWas();
        approvedPicturesAreApart();
        beginTakesWhatTheBranch0Has();
        beginTakesNoneToo();
        beginLetsTheBasesBeThoseOfTheBranch0();
        joinOfAnUnchangedBranchTakesNothing();
        joinTakesOverWhatTheBranchChanged();
        joinTakesOverAFirstPicture();
        joinTellsNoneFromAPictureOfZeros();
        beginAndJoinLeaveOtherBranchesAlone();
        joinGivesTheBranchWhatTheBranch0Has();
        joinOfTheSameOnBothSidesIsNoClash();
        joinClashes();
        aClashLeavesTheBaseAlone();
        joinTellsEachClash();
        joinComparesTheCells();
        basesOfBranchesAreApart();
        CHECKS.end("BranchesTest");
    }

    private static void fill(PictureProof proof, int test, int shade) {
        proof.paint(test, 0, 0, 8, 8, shade);
    }

    private static void approveShade(PictureProof proof, int branch, int test, int shade) {
        fill(proof, test, shade);
        proof.approve(branch, test);
    }

    /** The approved picture of a branch has this shade all over. */
    private static void holds(String what, PictureProof proof, int branch, int test, int shade) {
        fill(proof, test, shade);
        CHECKS.same(what, proof.differences(branch, test, 0), 0);
    }

    private static void approveTellsWhetherThereWasOne() {
        PictureProof proof = new PictureProof();
        for (int branch = 0; branch < 4; branch++) {
            for (int test = 0; test < 5; test++) {
                CHECKS.same("isApproved ahead", proof.isApproved(branch, test), false);
                CHECKS.same("the first approve", proof.approve(branch, test), false);
                CHECKS.same("isApproved behind", proof.isApproved(branch, test), true);
                CHECKS.same("the second approve", proof.approve(branch, test), true);
            }
        }
    }

    private static void approvedIsThePictureAsItWas() {
        PictureProof proof = new PictureProof();
        approveShade(proof, 0, 0, 40);
        fill(proof, 0, 90);
        CHECKS.same("differences behind paint", proof.differences(0, 0, 49), 64);
        holds("approved stays", proof, 0, 0, 40);
        approveShade(proof, 0, 0, 90);
        holds("approved anew", proof, 0, 0, 90);
        CHECKS.same("the picture stays", proof.shade(0, 4, 4), 90);
    }

    private static void approvedPicturesAreApart() {
        PictureProof proof = new PictureProof();
        for (int branch = 0; branch < 4; branch++) {
            for (int test = 0; test < 5; test++) {
                approveShade(proof, branch, test, 10 * branch + test);
            }
        }
        for (int branch = 0; branch < 4; branch++) {
            for (int test = 0; test < 5; test++) {
                holds("approved of " + branch + ", " + test, proof, branch, test, 10 * branch + test);
            }
        }
    }

    private static void beginTakesWhatTheBranch0Has() {
        for (int branch = 1; branch < 4; branch++) {
            PictureProof proof = new PictureProof();
            approveShade(proof, 0, 1, 11);
            approveShade(proof, 0, 4, 44);
            CHECKS.same("begin", proof.begin(branch), 2);
            for (int test = 0; test < 5; test++) {
                CHECKS.same("isApproved when begun", proof.isApproved(branch, test), test == 1 || test == 4);
            }
            holds("begun 1", proof, branch, 1, 11);
            holds("begun 4", proof, branch, 4, 44);
            approveShade(proof, 0, 1, 12);
            holds("what the branch 0 does later", proof, branch, 1, 11);
            for (int other = 1; other < 4; other++) {
                CHECKS.same("other branches", proof.isApproved(other, 1), other == branch);
            }
        }
    }

    private static void beginTakesNoneToo() {
        PictureProof proof = new PictureProof();
        approveShade(proof, 2, 3, 5);
        CHECKS.same("begin of an empty branch 0", proof.begin(2), 0);
        CHECKS.same("the branch's own has gone", proof.isApproved(2, 3), false);
        CHECKS.same("join behind it", proof.join(2), 0);
        CHECKS.same("nothing is taken over", proof.isApproved(0, 3), false);
        for (int test = 0; test < 5; test++) {
            proof.approve(0, test);
        }
        CHECKS.same("begin of a full branch 0", proof.begin(2), 5);
    }

    private static void beginLetsTheBasesBeThoseOfTheBranch0() {
        PictureProof proof = new PictureProof();
        approveShade(proof, 0, 0, 1);
        proof.begin(1);
        approveShade(proof, 0, 0, 2);
        approveShade(proof, 1, 0, 3);
        proof.begin(1);
        holds("begun anew", proof, 1, 0, 2);
        approveShade(proof, 1, 0, 4);
        CHECKS.same("join by the new base", proof.join(1), 0);
        holds("taken over", proof, 0, 0, 4);
    }

    private static void joinOfAnUnchangedBranchTakesNothing() {
        PictureProof proof = new PictureProof();
        approveShade(proof, 0, 2, 1);
        proof.begin(3);
        approveShade(proof, 0, 2, 2);
        CHECKS.same("join of an unchanged branch", proof.join(3), 0);
        holds("the branch 0 keeps its own", proof, 0, 2, 2);
        holds("the branch gets it", proof, 3, 2, 2);
        approveShade(proof, 0, 1, 7);
        CHECKS.same("join of a branch with none as its base", proof.join(3), 0);
        holds("the branch gets the first one", proof, 3, 1, 7);
    }

    private static void joinTakesOverWhatTheBranchChanged() {
        PictureProof proof = new PictureProof();
        approveShade(proof, 0, 0, 1);
        proof.begin(1);
        approveShade(proof, 1, 0, 2);
        CHECKS.same("join", proof.join(1), 0);
        holds("taken over", proof, 0, 0, 2);
        holds("and kept", proof, 1, 0, 2);
    }

    private static void joinTakesOverAFirstPicture() {
        PictureProof proof = new PictureProof();
        approveShade(proof, 1, 3, 2);
        CHECKS.same("join of a branch never begun", proof.join(1), 0);
        CHECKS.same("isApproved when taken over", proof.isApproved(0, 3), true);
        holds("taken over", proof, 0, 3, 2);
        CHECKS.same("other tests stay without", proof.isApproved(0, 2), false);
        CHECKS.same("other branches stay without", proof.isApproved(2, 3), false);
    }

    private static void joinTellsNoneFromAPictureOfZeros() {
        PictureProof taken = new PictureProof();
        taken.approve(1, 0);
        CHECKS.same("join of a picture of zeros", taken.join(1), 0);
        CHECKS.same("it is taken over", taken.isApproved(0, 0), true);
        PictureProof followed = new PictureProof();
        followed.approve(0, 0);
        CHECKS.same("join of a branch without it", followed.join(1), 0);
        CHECKS.same("the branch follows", followed.isApproved(1, 0), true);
        PictureProof clash = new PictureProof();
        clash.approve(0, 0);
        approveShade(clash, 1, 0, 8);
        CHECKS.same("zeros are a change of none", clash.join(1), 1);
    }

    private static void beginAndJoinLeaveOtherBranchesAlone() {
        for (int branch = 1; branch < 4; branch++) {
            PictureProof proof = new PictureProof();
            for (int test = 0; test < 5; test++) {
                for (int on = 0; on < 4; on++) {
                    approveShade(proof, on, test, 10 * on + test);
                }
            }
            proof.begin(branch);
            for (int test = 0; test < 5; test++) {
                approveShade(proof, branch, test, 100 + test);
            }
            CHECKS.same("join by the bases of begin", proof.join(branch), 0);
            proof.begin(branch);
            for (int test = 0; test < 5; test++) {
                for (int on = 0; on < 4; on++) {
                    int due = on == 0 || on == branch ? 100 + test : 10 * on + test;
                    holds("branch " + on + ", test " + test, proof, on, test, due);
                }
            }
        }
    }

    private static void joinGivesTheBranchWhatTheBranch0Has() {
        PictureProof proof = new PictureProof();
        approveShade(proof, 1, 0, 5);
        proof.join(1);
        approveShade(proof, 0, 0, 6);
        CHECKS.same("the base is new: no clash", proof.join(1), 0);
        holds("the branch follows", proof, 1, 0, 6);
        approveShade(proof, 1, 0, 7);
        CHECKS.same("the base is newer: no clash", proof.join(1), 0);
        holds("the branch 0 follows", proof, 0, 0, 7);
    }

    private static void joinOfTheSameOnBothSidesIsNoClash() {
        PictureProof proof = new PictureProof();
        approveShade(proof, 0, 0, 1);
        proof.begin(1);
        approveShade(proof, 0, 0, 2);
        proof.approve(1, 0);
        CHECKS.same("join of the same", proof.join(1), 0);
        approveShade(proof, 0, 0, 3);
        CHECKS.same("the base is what both had", proof.join(1), 0);
        holds("the branch 0 stays", proof, 0, 0, 3);
        holds("the branch follows", proof, 1, 0, 3);
    }

    private static PictureProof clashing() {
        PictureProof proof = new PictureProof();
        approveShade(proof, 0, 2, 1);
        proof.begin(1);
        approveShade(proof, 0, 2, 2);
        approveShade(proof, 1, 2, 3);
        return proof;
    }

    private static void joinClashes() {
        PictureProof proof = clashing();
        CHECKS.same("join with a clash", proof.join(1), 4);
        holds("the branch 0 keeps its own", proof, 0, 2, 2);
        holds("the branch keeps its own", proof, 1, 2, 3);
        CHECKS.same("join clashes again", proof.join(1), 4);
        PictureProof first = new PictureProof();
        approveShade(first, 0, 2, 2);
        approveShade(first, 1, 2, 3);
        CHECKS.same("a clash with none as the base", first.join(1), 4);
    }

    private static void aClashLeavesTheBaseAlone() {
        PictureProof back = clashing();
        back.join(1);
        approveShade(back, 0, 2, 1);
        CHECKS.same("the branch 0 back at the base", back.join(1), 0);
        holds("the branch's is taken over", back, 0, 2, 3);
        PictureProof own = clashing();
        own.join(1);
        approveShade(own, 1, 2, 1);
        CHECKS.same("the branch back at the base", own.join(1), 0);
        holds("the branch 0 keeps its own", own, 0, 2, 2);
        holds("the branch follows", own, 1, 2, 2);
        PictureProof both = clashing();
        both.join(1);
        approveShade(both, 1, 2, 2);
        CHECKS.same("the branch at what the branch 0 has", both.join(1), 0);
        PictureProof begun = clashing();
        begun.join(1);
        begun.begin(1);
        holds("begin ends a clash", begun, 1, 2, 2);
        CHECKS.same("join behind begin", begun.join(1), 0);
    }

    private static void joinTellsEachClash() {
        PictureProof proof = new PictureProof();
        for (int test = 0; test < 5; test++) {
            approveShade(proof, 0, test, 1);
        }
        proof.begin(2);
        for (int test = 0; test < 5; test++) {
            approveShade(proof, 2, test, 3);
        }
        for (int test = 0; test < 5; test += 2) {
            approveShade(proof, 0, test, 2);
        }
        CHECKS.same("join with clashes of 0, 2 and 4", proof.join(2), 21);
        for (int test = 0; test < 5; test++) {
            holds("the branch 0 behind it", proof, 0, test, test % 2 == 0 ? 2 : 3);
        }
    }

    private static void joinComparesTheCells() {
        PictureProof proof = new PictureProof();
        approveShade(proof, 0, 0, 1);
        proof.begin(1);
        proof.paint(0, 7, 7, 1, 1, 2);
        proof.approve(1, 0);
        CHECKS.same("join of one other cell", proof.join(1), 0);
        CHECKS.same("it is taken over", proof.differences(0, 0, 0), 0);
        proof.paint(0, 0, 0, 1, 1, 2);
        proof.approve(0, 0);
        proof.paint(0, 0, 0, 1, 1, 3);
        proof.approve(1, 0);
        CHECKS.same("join of two other first cells", proof.join(1), 1);
    }

    private static void basesOfBranchesAreApart() {
        PictureProof proof = new PictureProof();
        approveShade(proof, 0, 0, 1);
        proof.begin(1);
        proof.begin(2);
        proof.begin(3);
        approveShade(proof, 1, 0, 2);
        approveShade(proof, 2, 0, 3);
        CHECKS.same("the first join", proof.join(1), 0);
        CHECKS.same("the second join", proof.join(2), 1);
        CHECKS.same("the third join, unchanged", proof.join(3), 0);
        holds("the third follows", proof, 3, 0, 2);
        holds("the second keeps its own", proof, 2, 0, 3);
    }
}
