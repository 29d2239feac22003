/** Promises 1 to 5: a new object, paint, shade, setPart, setMask. */
public final class PicturesTest {
    private static final Checks CHECKS = new Checks();

    public static void main(String[] args) {
        aNewObjectHoldsNothing();
        paintCountsTheCellsThatChange();
        paintFillsTheRectangleAlone();
        picturesOfTestsAreApart();
        setPartTakesThePlaceOfTheOneBefore();
        setPartLetsTheMaskGo();
        partsOfTestsAreApart();
        setMaskNeedsAPart();
        setMaskTakesThePlaceOfTheOneBefore();
        CHECKS.end("PicturesTest");
    }

    private static void aNewObjectHoldsNothing() {
        PictureProof proof = new PictureProof();
        for (int cell = 0; cell < 320; cell++) {
            CHECKS.same("shade of a new cell", proof.shade(cell / 64, cell % 8, cell / 8 % 8), 0);
        }
        for (int test = 0; test < 5; test++) {
            int chosen = test;
            for (int branch = 0; branch < 4; branch++) {
                int on = branch;
                CHECKS.same("a new isApproved", proof.isApproved(branch, test), false);
                CHECKS.refusesState("a new move", proof, p -> p.move(on, chosen, 0));
            }
            CHECKS.refusesState("a new setMask", proof, p -> {
                p.setMask(chosen, 0, 0, 1, 1);
                return 0;
            });
            CHECKS.same("new runs", proof.runs(test), 0);
            CHECKS.same("a new doubt", proof.doubt(test), 0);
        }
        PictureProof other = new PictureProof();
        other.paint(0, 0, 0, 1, 1, 9);
        CHECKS.same("another object's picture", proof.shade(0, 0, 0), 0);
    }

    private static void paintCountsTheCellsThatChange() {
        PictureProof proof = new PictureProof();
        CHECKS.same("paint with the shade that is there", proof.paint(0, 0, 0, 8, 8, 0), 0);
        CHECKS.same("paint 3 by 2", proof.paint(0, 1, 2, 3, 2, 7), 6);
        CHECKS.same("paint 3 by 2 again", proof.paint(0, 1, 2, 3, 2, 7), 0);
        CHECKS.same("paint over a half", proof.paint(0, 3, 2, 2, 2, 7), 2);
        CHECKS.same("paint all", proof.paint(0, 0, 0, 8, 8, 255), 64);
        CHECKS.same("paint the last cell", proof.paint(4, 7, 7, 1, 1, 1), 1);
        CHECKS.same("paint the last column", proof.paint(4, 7, 0, 1, 8, 1), 7);
        CHECKS.same("paint the last row", proof.paint(4, 0, 7, 8, 1, 1), 7);
    }

    private static void paintFillsTheRectangleAlone() {
        PictureProof proof = new PictureProof();
        proof.paint(2, 2, 3, 4, 2, 99);
        for (int row = 0; row < 8; row++) {
            for (int column = 0; column < 8; column++) {
                boolean within = column >= 2 && column < 6 && row >= 3 && row < 5;
                CHECKS.same("shade at " + column + ", " + row, proof.shade(2, column, row), within ? 99 : 0);
            }
        }
    }

    private static void picturesOfTestsAreApart() {
        PictureProof proof = new PictureProof();
        for (int test = 0; test < 5; test++) {
            proof.paint(test, test, 0, 1, 1, 10 + test);
        }
        for (int test = 0; test < 5; test++) {
            for (int column = 0; column < 5; column++) {
                CHECKS.same("shade of one test", proof.shade(test, column, 0), column == test ? 10 + test : 0);
            }
        }
    }

    /** A cell of 100 at 3, 3 is approved; then it stands at 4, 3 instead. */
    private static PictureProof movedCell(int test) {
        PictureProof proof = new PictureProof();
        proof.paint(test, 3, 3, 1, 1, 100);
        proof.approve(0, test);
        proof.paint(test, 3, 3, 1, 1, 0);
        proof.paint(test, 4, 3, 1, 1, 100);
        return proof;
    }

    private static void setPartTakesThePlaceOfTheOneBefore() {
        PictureProof proof = movedCell(0);
        CHECKS.same("move without a part", proof.move(0, 0, 0), 5050);
        proof.setPart(0, 3, 3, 1, 1);
        CHECKS.same("move with the part", proof.move(0, 0, 0), 5051);
        proof.setPart(0, 0, 0, 2, 2);
        CHECKS.same("move with another part", proof.move(0, 0, 0), 5050);
        proof.setPart(0, 3, 3, 1, 1);
        CHECKS.same("move with the part again", proof.move(0, 0, 0), 5051);
    }

    private static void setPartLetsTheMaskGo() {
        PictureProof proof = allDiffering(0);
        proof.setPart(0, 0, 0, 1, 1);
        proof.setMask(0, 0, 0, 2, 2);
        CHECKS.same("differences with a mask", proof.differences(0, 0, 0), 60);
        proof.setPart(0, 0, 0, 1, 1);
        CHECKS.same("differences when the mask has gone", proof.differences(0, 0, 0), 64);
        proof.setMask(0, 0, 0, 2, 2);
        CHECKS.same("differences with a new mask", proof.differences(0, 0, 0), 60);
    }

    private static void partsOfTestsAreApart() {
        for (int test = 0; test < 5; test++) {
            PictureProof proof = allDiffering(test);
            for (int other = 0; other < 5; other++) {
                proof.setPart(other, other, 0, 1, 1);
            }
            for (int other = 0; other < 5; other++) {
                proof.setMask(other, 0, 0, other + 1, 1);
            }
            int due = 64 - Math.min(test + 1, 8 - test);
            CHECKS.same("differences of test " + test, proof.differences(0, test, 0), due);
            CHECKS.same("the first beside the mask", proof.firstDifference(0, test, 0), test == 0 ? 1 : 0);
            int next = (test + 1) % 5;
            proof.setPart(next, 0, 0, 1, 1);
            CHECKS.same("another test's setPart", proof.differences(0, test, 0), due);
        }
    }

    private static void setMaskNeedsAPart() {
        PictureProof proof = new PictureProof();
        proof.setPart(1, 0, 0, 1, 1);
        Checks.Call mask = p -> {
            p.setMask(0, 0, 0, 1, 1);
            return 0;
        };
        CHECKS.refusesState("setMask without a part", proof, mask);
        CHECKS.refusesArgument("setMask with a wrong width and no part", proof, p -> {
            p.setMask(0, 0, 0, 0, 1);
            return 0;
        });
        proof.setPart(0, 7, 7, 1, 1);
        CHECKS.same("setMask with a part", Checks.answer(proof, mask), 0);
    }

    private static void setMaskTakesThePlaceOfTheOneBefore() {
        PictureProof proof = allDiffering(3);
        proof.setPart(3, 3, 3, 1, 1);
        proof.setMask(3, 1, 1, 2, 1);
        CHECKS.same("differences with a mask of 2", proof.differences(0, 3, 0), 62);
        proof.setMask(3, -3, -3, 3, 3);
        CHECKS.same("differences with a mask of 9", proof.differences(0, 3, 0), 55);
        CHECKS.same("the first beside that mask", proof.firstDifference(0, 3, 0), 3);
    }

    /** Approved is a picture of 0, and the picture is of 200. */
    private static PictureProof allDiffering(int test) {
        PictureProof proof = new PictureProof();
        proof.approve(0, test);
        proof.paint(test, 0, 0, 8, 8, 200);
        return proof;
    }
}
