/** The boundaries that the document's sentences name, in its order; each sentence stands above its test. */
public final class EdgesTest {
    private static final Checks CHECKS = new Checks();

    public static void main(String[] args) {
        the512thCallAnswersStill();
        paintOfEveryRectangle();
        beginCountsWhatTheBranch0Has();
        joinOfEveryState();
        joinTellsEverySetOfClashes();
        shadesAreAlikeByTheBoundOrLess();
        aPictureThatDiffersNowhereOrEverywhere();
        neighboursAreThoseThatAreThere();
        softIsAskedOfThePicture();
        noCellIsSoftOrAllAre();
        everyPartByEveryMove();
        aPartThatFitsInPlaceHasNotMoved();
        aPartThatFitsNowhereHasNotMoved();
        everyMaskByEveryMove();
        withoutAPartThereIsNoMask();
        everyHistory();
        historiesOfTwoBranchesAreOne();
        CHECKS.end("EdgesTest");
    }

    private static void fill(PictureProof proof, int test, int shade) {
        proof.paint(test, 0, 0, 8, 8, shade);
    }

    private static boolean within(int value, int least, int count) {
        return value >= least && value < least + count;
    }

    // "An object is used for at most 512 calls after it has been made"
    private static void the512thCallAnswersStill() {
        PictureProof proof = new PictureProof();
        proof.approve(3, 4);
        proof.paint(4, 0, 0, 8, 8, 255);
        for (int call = 3; call <= 510; call++) {
            CHECKS.same("run as call " + call, proof.run(3, 4, call % 2 == 0 ? 255 : 254), call % 2 == 0);
        }
        CHECKS.same("runs as call 511", proof.runs(4), 10);
        CHECKS.same("doubt as call 512", proof.doubt(4), 100);
    }

    // "width: 1 to 8 - column", "height: 1 to 8 - row", "Returns how many cells change."
    private static void paintOfEveryRectangle() {
        for (int column = 0; column < 8; column++) {
            for (int row = 0; row < 8; row++) {
                for (int width = 1; width <= 8 - column; width++) {
                    for (int height = 1; height <= 8 - row; height++) {
                        paintOf(column, row, width, height);
                    }
                }
            }
        }
    }

    private static void paintOf(int column, int row, int width, int height) {
        PictureProof proof = new PictureProof();
        String what = "paint " + column + ", " + row + ", " + width + ", " + height;
        CHECKS.same(what, proof.paint(1, column, row, width, height, 255), width * height);
        CHECKS.same(what + " again", proof.paint(1, column, row, width, height, 255), 0);
        for (int cell = 0; cell < 64; cell++) {
            boolean painted = within(cell % 8, column, width) && within(cell / 8, row, height);
            CHECKS.same(what + " at " + cell, proof.shade(1, cell % 8, cell / 8), painted ? 255 : 0);
        }
        CHECKS.same(what + " and the rest", proof.paint(1, 0, 0, 8, 8, 255), 64 - width * height);
    }

    // "Returns how many approved pictures it has then.": none to all five
    private static void beginCountsWhatTheBranch0Has() {
        for (int set = 0; set < 32; set++) {
            PictureProof proof = new PictureProof();
            for (int test = 0; test < 5; test++) {
                proof.approve(2, test);
                if ((set >> test & 1) == 1) {
                    proof.approve(0, test);
                }
            }
            CHECKS.same("begin with the set " + set, proof.begin(2), Integer.bitCount(set));
            for (int test = 0; test < 5; test++) {
                CHECKS.same("isApproved with the set " + set, proof.isApproved(2, test), (set >> test & 1) == 1);
            }
        }
    }

    // "To join a branch into the branch 0 is, test by test: ..": every state that calls can lead to.
    // A base is none at first and when the branch 0 had none; behind it no picture can become none.
    private static void joinOfEveryState() {
        for (int branch = 1; branch < 4; branch++) {
            for (int test = 0; test < 5; test++) {
                for (int base = NONE; base < 3; base++) {
                    for (int own = base == NONE ? NONE : 0; own < 3; own++) {
                        for (int main = base == NONE ? NONE : 0; main < 3; main++) {
                            joinOf(branch, test, base, own, main);
                        }
                    }
                }
            }
        }
    }

    /** Pictures are told by their shade; the shade 0 is no less a picture than others. */
    private static final int NONE = -1;

    private static void joinOf(int branch, int test, int base, int own, int main) {
        String what = "join of " + branch + ", " + test + " with base " + base + ", own " + own + ", main " + main;
        int due = NONE;
        boolean clash = false;
        if (own == base) {
            due = main;
        } else if (main == base) {
            due = own;
        } else if (own == main) {
            due = main;
        } else {
            clash = true;
        }
        PictureProof proof = stateOf(branch, test, base, own, main);
        CHECKS.same(what, proof.join(branch), clash ? 1 << test : 0);
        holds(what + ": main", proof, 0, test, clash ? main : due);
        holds(what + ": own", proof, branch, test, clash ? own : due);
        if (clash) {
            theBaseStayed(what, proof, branch, test, base, own);
        } else {
            theBaseIsNew(what, proof, branch, test);
        }
    }

    private static PictureProof stateOf(int branch, int test, int base, int own, int main) {
        PictureProof proof = new PictureProof();
        approve(proof, 0, test, base);
        if (base != NONE) {
            proof.begin(branch);
        }
        // Approved again also when it has the same cells: what counts is the cells alone.
        approve(proof, branch, test, own);
        approve(proof, 0, test, main);
        return proof;
    }

    private static void approve(PictureProof proof, int branch, int test, int shade) {
        if (shade != NONE) {
            fill(proof, test, shade);
            proof.approve(branch, test);
        }
    }

    private static void holds(String what, PictureProof proof, int branch, int test, int shade) {
        CHECKS.same(what + " is there", proof.isApproved(branch, test), shade != NONE);
        if (shade != NONE) {
            fill(proof, test, shade);
            CHECKS.same(what + " has the shade", proof.differences(branch, test, 0), 0);
        }
    }

    // "the bases of all tests that do not clash are what the branch 0 has"
    private static void theBaseIsNew(String what, PictureProof proof, int branch, int test) {
        approve(proof, branch, test, 9);
        CHECKS.same(what + ": the next change of the branch", proof.join(branch), 0);
        holds(what + ": the next taken over", proof, 0, test, 9);
        approve(proof, 0, test, 8);
        CHECKS.same(what + ": the next change of the branch 0", proof.join(branch), 0);
        holds(what + ": the next followed", proof, branch, test, 8);
    }

    private static void theBaseStayed(String what, PictureProof proof, int branch, int test, int base, int own) {
        CHECKS.same(what + ": again", proof.join(branch), 1 << test);
        if (base != NONE) {
            approve(proof, 0, test, base);
            CHECKS.same(what + ": the branch 0 back at the base", proof.join(branch), 0);
            holds(what + ": taken over then", proof, 0, test, own);
        }
    }

    // "Returns the tests that clash: bit t stands for the test t.": no bit to all five
    private static void joinTellsEverySetOfClashes() {
        for (int set = 0; set < 32; set++) {
            PictureProof proof = new PictureProof();
            for (int test = 0; test < 5; test++) {
                approve(proof, 0, test, 1);
                approve(proof, 3, test, (set >> test & 1) == 1 ? 2 : 1);
            }
            CHECKS.same("join with the clashes " + set, proof.join(3), set);
        }
    }

    // "Two shades are alike, if they differ by the bound or less."
    private static void shadesAreAlikeByTheBoundOrLess() {
        int[] shades = {0, 1, 2, 127, 128, 129, 253, 254, 255};
        for (int due : shades) {
            PictureProof proof = new PictureProof();
            approve(proof, 1, 2, due);
            for (int drawn : shades) {
                int apart = Math.abs(drawn - due);
                String what = drawn + " for " + due;
                fill(proof, 2, drawn);
                CHECKS.same(what + " by " + apart, proof.differences(1, 2, apart), 0);
                CHECKS.same(what + " by " + apart, proof.run(1, 2, apart), true);
                if (apart < 255) {
                    CHECKS.same(what + " by one more", proof.differences(1, 2, apart + 1), 0);
                }
                if (apart > 0) {
                    CHECKS.same(what + " by one less", proof.differences(1, 2, apart - 1), 64);
                    CHECKS.same(what + " by one less", proof.run(1, 2, apart - 1), false);
                }
            }
        }
    }

    // "Returns the first cell that differs ..: 8 times its row plus its column; -1 if there is none."
    private static void aPictureThatDiffersNowhereOrEverywhere() {
        PictureProof proof = new PictureProof();
        proof.approve(0, 0);
        CHECKS.same("differences of the same", proof.differences(0, 0, 0), 0);
        CHECKS.same("the first of none", proof.firstDifference(0, 0, 0), -1);
        fill(proof, 0, 1);
        CHECKS.same("differences of all", proof.differences(0, 0, 0), 64);
        CHECKS.same("the first of all", proof.firstDifference(0, 0, 0), 0);
        for (int cell = 0; cell < 64; cell++) {
            fill(proof, 0, 1);
            proof.paint(0, cell % 8, cell / 8, 1, 1, 0);
            proof.approve(0, 0);
            fill(proof, 0, 1);
            CHECKS.same("differences of " + cell, proof.differences(0, 0, 0), 1);
            CHECKS.same("the first at " + cell, proof.firstDifference(0, 0, 0), cell);
        }
    }

    // "the shades of the cell and its neighbours (up to 8, those that are there)"
    private static void neighboursAreThoseThatAreThere() {
        PictureProof proof = new PictureProof();
        proof.approve(0, 0);
        fill(proof, 0, 200);
        CHECKS.same("soft where beyond the edge there is nothing", proof.soft(0, 0, 0), 0);
        CHECKS.same("differences at the edges", proof.differences(0, 0, 0), 64);
        for (int cell = 0; cell < 64; cell++) {
            for (int other = 0; other < 64; other++) {
                oneSoftCell(cell, other);
            }
        }
    }

    /** Only one cell's approved shade lies among the picture's: it is soft just beside the odd cell. */
    private static void oneSoftCell(int cell, int odd) {
        PictureProof proof = new PictureProof();
        fill(proof, 0, 255);
        proof.paint(0, cell % 8, cell / 8, 1, 1, 150);
        proof.approve(0, 0);
        fill(proof, 0, 100);
        proof.paint(0, odd % 8, odd / 8, 1, 1, 200);
        boolean near = Math.abs(cell % 8 - odd % 8) < 2 && Math.abs(cell / 8 - odd / 8) < 2;
        String what = "cell " + cell + " by the odd cell " + odd;
        CHECKS.same(what + ": soft", proof.soft(0, 0, 0), near ? 1 : 0);
        CHECKS.same(what + ": differences", proof.differences(0, 0, 0), near ? 63 : 64);
        CHECKS.same(what + ": soft by 99", proof.soft(0, 0, 99), near ? 1 : 0);
        CHECKS.same(what + ": soft by 100", proof.soft(0, 0, 100), 0);
    }

    // "A cell is soft, if in the picture the shades .. are not all alike to one another"
    private static void softIsAskedOfThePicture() {
        PictureProof proof = new PictureProof();
        proof.paint(0, 0, 0, 4, 8, 100);
        proof.approve(0, 0);
        fill(proof, 0, 50);
        CHECKS.same("an edge in the approved picture alone", proof.soft(0, 0, 0), 0);
        CHECKS.same("its differences", proof.differences(0, 0, 0), 64);
    }

    // "Returns how many cells are soft": none to all
    private static void noCellIsSoftOrAllAre() {
        PictureProof proof = new PictureProof();
        proof.approve(0, 0);
        for (int cell = 0; cell < 64; cell += 2) {
            proof.paint(0, (cell + cell / 8 % 2) % 8, cell / 8, 1, 1, 1);
        }
        CHECKS.same("soft of a chequered picture", proof.soft(0, 0, 0), 64);
        CHECKS.same("its differences", proof.differences(0, 0, 0), 0);
        CHECKS.same("soft by 1", proof.soft(0, 0, 1), 0);
        CHECKS.same("differences by 1", proof.differences(0, 0, 1), 0);
        fill(proof, 0, 1);
        CHECKS.same("soft of one shade", proof.soft(0, 0, 0), 0);
    }

    // "each from -2 to 2 and not both 0, if all of its cells, moved by them, are cells of the picture"
    private static void everyPartByEveryMove() {
        for (int rectangle = 0; rectangle < 4096; rectangle++) {
            int[] part = {rectangle & 7, rectangle >> 3 & 7, 1 + (rectangle >> 6 & 7), 1 + (rectangle >> 9 & 7)};
            if (part[0] + part[2] > 8 || part[1] + part[3] > 8) {
                continue;
            }
            for (int move = 0; move < 49; move++) {
                partBy(part, move % 7 - 3, move / 7 - 3);
            }
        }
    }

    private static void partBy(int[] part, int columns, int rows) {
        PictureProof proof = new PictureProof();
        drawPart(proof, part, 0, 0);
        proof.approve(0, 3);
        proof.setPart(3, part[0], part[1], part[2], part[3]);
        fill(proof, 3, 0);
        drawPart(proof, part, columns, rows);
        boolean reached = Math.abs(columns) <= 2 && Math.abs(rows) <= 2
                && part[0] + columns >= 0 && part[0] + columns + part[2] <= 8
                && part[1] + rows >= 0 && part[1] + rows + part[3] <= 8;
        String what = "part " + part[0] + ", " + part[1] + ", " + part[2] + ", " + part[3]
                + " by " + columns + ", " + rows;
        CHECKS.same(what, proof.move(0, 3, 0), reached ? 5050 + 100 * rows + columns : 5050);
        if (reached) {
            CHECKS.same(what + ": differences", proof.differences(0, 3, 0), 0);
        }
    }

    /** Each cell has a shade of its own, so that no other move fits; what is beyond the picture is left out. */
    private static void drawPart(PictureProof proof, int[] part, int columns, int rows) {
        int shade = 100;
        for (int row = part[1] + rows; row < part[1] + rows + part[3]; row++) {
            for (int column = part[0] + columns; column < part[0] + columns + part[2]; column++) {
                if (within(column, 0, 8) && within(row, 0, 8)) {
                    proof.paint(3, column, row, 1, 1, shade);
                }
                shade++;
            }
        }
    }

    // "It has not moved, if its cells where it is are all alike in both."
    private static void aPartThatFitsInPlaceHasNotMoved() {
        PictureProof proof = new PictureProof();
        proof.paint(0, 3, 3, 1, 1, 100);
        proof.approve(0, 0);
        proof.setPart(0, 3, 3, 1, 1);
        proof.setMask(0, 1, 0, 1, 1);
        proof.paint(0, 3, 3, 1, 1, 105);
        proof.paint(0, 4, 3, 1, 1, 100);
        CHECKS.same("in place by 5, though it fits better beside", proof.move(0, 0, 5), 5050);
        CHECKS.same("moved by 4", proof.move(0, 0, 4), 5051);
        proof.paint(0, 3, 3, 1, 1, 100);
        CHECKS.same("in place and beside it again", proof.move(0, 0, 0), 5050);
    }

    // Without a move no cell is moved, and the mask stands where it is told.
    private static void aPartThatFitsNowhereHasNotMoved() {
        PictureProof proof = new PictureProof();
        fill(proof, 0, 5);
        proof.paint(0, 3, 3, 2, 1, 255);
        proof.approve(0, 0);
        proof.setPart(0, 3, 3, 2, 1);
        fill(proof, 0, 10);
        CHECKS.same("the part is gone", proof.move(0, 0, 0), 5050);
        CHECKS.same("its cells differ too", proof.differences(0, 0, 0), 64);
        proof.setMask(0, -3, -3, 8, 1);
        CHECKS.same("the mask stands", proof.differences(0, 0, 0), 56);
        CHECKS.same("the first below it", proof.firstDifference(0, 0, 0), 8);
        proof.paint(0, 3, 3, 1, 1, 255);
        CHECKS.same("one of its cells in place", proof.move(0, 0, 0), 5050);
        // It is alike, and the other one, beside it, is soft: its 255 is the greatest there.
        CHECKS.same("neither differs", proof.differences(0, 0, 0), 54);
    }

    // "The cells of the mask, moved as the part has, are masked; those beyond the picture fall away."
    private static void everyMaskByEveryMove() {
        int[] sizes = {1, 2, 3, 7, 8};
        for (int columns = -8; columns <= 8; columns++) {
            for (int rows = -8; rows <= 8; rows++) {
                for (int width : sizes) {
                    for (int move = 0; move < 25; move++) {
                        int height = sizes[(columns + rows + width + 16) % sizes.length];
                        maskBy(new int[] {columns, rows, width, height}, move % 5 - 2, move / 5 - 2);
                    }
                }
            }
        }
    }

    /** A part of one cell at 4, 3; all other cells are unlike, and lower than all shades of the picture. */
    private static void maskBy(int[] mask, int columns, int rows) {
        PictureProof proof = new PictureProof();
        fill(proof, 0, 5);
        proof.paint(0, 4, 3, 1, 1, 255);
        proof.approve(0, 0);
        proof.setPart(0, 4, 3, 1, 1);
        proof.setMask(0, mask[0], mask[1], mask[2], mask[3]);
        fill(proof, 0, 10);
        proof.paint(0, 4 + columns, 3 + rows, 1, 1, 255);
        int count = 0;
        int first = -1;
        for (int cell = 63; cell >= 0; cell--) {
            int column = cell % 8;
            int row = cell / 8;
            boolean moved = column == 4 && row == 3 || column == 4 + columns && row == 3 + rows;
            boolean masked = within(column, 4 + mask[0] + columns, mask[2]) && within(row, 3 + mask[1] + rows, mask[3]);
            if (!moved && !masked) {
                count++;
                first = cell;
            }
        }
        String what = "mask " + mask[0] + ", " + mask[1] + ", " + mask[2] + ", " + mask[3]
                + " by " + columns + ", " + rows;
        CHECKS.same(what + ": differences", proof.differences(0, 0, 0), count);
        CHECKS.same(what + ": the first", proof.firstDifference(0, 0, 0), first);
    }

    // "without a part there is no mask"; "in place of the one before; the mask goes"
    private static void withoutAPartThereIsNoMask() {
        PictureProof proof = new PictureProof();
        proof.approve(0, 4);
        fill(proof, 4, 9);
        CHECKS.refusesState("setMask without a part", proof, p -> {
            p.setMask(4, 0, 0, 8, 8);
            return 0;
        });
        proof.setPart(4, 7, 7, 1, 1);
        CHECKS.same("the refused mask has not come", proof.differences(0, 4, 0), 64);
        proof.setMask(4, -7, -7, 8, 8);
        CHECKS.same("a mask over all", proof.differences(0, 4, 0), 0);
        CHECKS.refusesArgument("setPart beyond the edge", proof, p -> {
            p.setPart(4, 7, 7, 2, 1);
            return 0;
        });
        CHECKS.refusesArgument("setMask of no width", proof, p -> {
            p.setMask(4, 0, 0, 0, 1);
            return 0;
        });
        CHECKS.same("the mask stays behind refused calls", proof.differences(0, 4, 0), 0);
        proof.setPart(4, 7, 7, 1, 1);
        CHECKS.same("the same part again: the mask goes", proof.differences(0, 4, 0), 64);
    }

    // "The last 10 results ..": "rounded down; 0 with fewer than 2 results."
    private static void everyHistory() {
        for (int length = 0; length <= 12; length++) {
            for (int results = 0; results < 1 << length; results++) {
                historyOf(length, results);
            }
        }
    }

    private static void historyOf(int length, int results) {
        PictureProof proof = new PictureProof();
        proof.approve(0, 1);
        proof.paint(1, 0, 0, 8, 8, 1);
        for (int i = 0; i < length; i++) {
            proof.run(0, 1, results >> i & 1);
        }
        int kept = Math.min(length, 10);
        int changes = 0;
        for (int i = length - kept + 1; i < length; i++) {
            changes += (results >> i & 1) == (results >> (i - 1) & 1) ? 0 : 1;
        }
        String what = " of " + length + " results, " + results;
        CHECKS.same("runs" + what, proof.runs(1), kept);
        CHECKS.same("doubt" + what, proof.doubt(1), kept < 2 ? 0 : 100 * changes / (kept - 1));
    }

    // "The last 10 results of a test, of whichever branch, are its history."
    private static void historiesOfTwoBranchesAreOne() {
        PictureProof proof = new PictureProof();
        proof.approve(0, 0);
        fill(proof, 0, 1);
        proof.approve(1, 0);
        for (int i = 0; i < 11; i++) {
            CHECKS.same("run of the branch " + i % 2, proof.run(i % 2, 0, 0), i % 2 == 1);
            CHECKS.same("runs", proof.runs(0), Math.min(i + 1, 10));
            CHECKS.same("doubt", proof.doubt(0), i == 0 ? 0 : 100);
        }
        proof.begin(1);
        CHECKS.same("begin leaves the history", proof.doubt(0), 100);
        CHECKS.same("run of the begun branch", proof.run(1, 0, 0), false);
        CHECKS.same("doubt with one place alike", proof.doubt(0), 88);
    }
}
