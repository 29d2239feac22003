/** Promises 10 to 13: differences, firstDifference, move, soft. */
public final class ComparingTest {
    private static final Checks CHECKS = new Checks();

    public static void main(String[] args) {
        differencesByTheBound();
        firstDifferenceGoesRowByRow();
        eachBranchIsComparedByItsOwn();
        softNeedsUnlikeNeighbours();
        softIsFromTheLeastToTheGreatest();
        softAtCornersAndEdges();
        softCellsDoNotDiffer();
        softCountsAlikeCells();
        moveAnswersRowsAndColumns();
        moveReachesTwoAndNoFarther();
        moveByTheBound();
        moveTakesTheFewestSteps();
        moveTakesTheLowestRowsThenColumns();
        movedPartsStayInThePicture();
        aPartInPlaceHasNotMoved();
        onePartCellUnlikeIsNoMove();
        movedCellsDoNotDiffer();
        masksStandBesideThePart();
        masksMoveWithThePart();
        masksBeyondThePicture();
        CHECKS.end("ComparingTest");
    }

    private static PictureProof approved(int shade) {
        PictureProof proof = new PictureProof();
        proof.paint(0, 0, 0, 8, 8, shade);
        proof.approve(0, 0);
        return proof;
    }

    private static void differencesByTheBound() {
        PictureProof proof = approved(100);
        proof.paint(0, 0, 0, 8, 8, 110);
        CHECKS.same("differences by 9", proof.differences(0, 0, 9), 64);
        CHECKS.same("differences by 10", proof.differences(0, 0, 10), 0);
        proof.paint(0, 0, 0, 8, 8, 90);
        CHECKS.same("differences below by 9", proof.differences(0, 0, 9), 64);
        CHECKS.same("differences below by 10", proof.differences(0, 0, 10), 0);
        CHECKS.same("differences by 255", approved(255).differences(0, 0, 255), 0);
        PictureProof far = approved(255);
        far.paint(0, 0, 0, 8, 8, 0);
        CHECKS.same("differences by 254", far.differences(0, 0, 254), 64);
        CHECKS.same("differences by 255", far.differences(0, 0, 255), 0);
        CHECKS.same("differences by 0", far.differences(0, 0, 0), 64);
        PictureProof edge = approved(100);
        edge.paint(0, 0, 0, 8, 8, 200);
        edge.paint(0, 0, 0, 8, 4, 201);
        CHECKS.same("differences beside a soft bound", edge.differences(0, 0, 100), 32);
    }

    private static void firstDifferenceGoesRowByRow() {
        PictureProof proof = new PictureProof();
        proof.paint(0, 0, 0, 8, 8, 100);
        proof.paint(0, 6, 2, 1, 1, 0);
        proof.paint(0, 1, 5, 1, 1, 0);
        proof.approve(0, 0);
        proof.paint(0, 0, 0, 8, 8, 100);
        CHECKS.same("the first of two", proof.firstDifference(0, 0, 0), 22);
        CHECKS.same("both", proof.differences(0, 0, 0), 2);
        CHECKS.same("the first by 99", proof.firstDifference(0, 0, 99), 22);
        CHECKS.same("the first by 100", proof.firstDifference(0, 0, 100), -1);
        for (int cell = 0; cell < 64; cell++) {
            PictureProof one = new PictureProof();
            one.paint(4, cell % 8, cell / 8, 1, 1, 1);
            one.approve(3, 4);
            one.paint(4, 0, 0, 8, 8, 0);
            CHECKS.same("the only one", one.firstDifference(3, 4, 0), cell);
            CHECKS.same("one alone", one.differences(3, 4, 0), 1);
        }
    }

    private static void eachBranchIsComparedByItsOwn() {
        PictureProof proof = approved(10);
        proof.paint(0, 0, 0, 8, 8, 20);
        proof.approve(1, 0);
        CHECKS.same("by the branch 0", proof.differences(0, 0, 0), 64);
        CHECKS.same("by the branch 1", proof.differences(1, 0, 0), 0);
        CHECKS.same("the first by the branch 1", proof.firstDifference(1, 0, 0), -1);
        CHECKS.refusesState("by the branch 2", proof, p -> p.differences(2, 0, 0));
        CHECKS.refusesState("the first by the branch 2", proof, p -> p.firstDifference(2, 0, 0));
        CHECKS.refusesState("soft by the branch 2", proof, p -> p.soft(2, 0, 0));
        CHECKS.refusesState("move by the branch 2", proof, p -> p.move(2, 0, 0));
        CHECKS.refusesState("differences of the test 1", proof, p -> p.differences(0, 1, 0));
    }

    private static void softNeedsUnlikeNeighbours() {
        PictureProof proof = approved(0);
        CHECKS.same("soft of one shade", proof.soft(0, 0, 0), 0);
        proof.paint(0, 3, 3, 1, 1, 10);
        CHECKS.same("soft by 9", proof.soft(0, 0, 9), 9);
        CHECKS.same("soft by 10", proof.soft(0, 0, 10), 0);
        proof.paint(0, 5, 3, 1, 1, 20);
        CHECKS.same("least and greatest are unlike by 19", proof.soft(0, 0, 19), 9);
        // Only the cells from the column 4 on have the 20 among them, and all of them a 0 too.
        CHECKS.same("soft by 9 round two cells", proof.soft(0, 0, 9), 15);
        CHECKS.same("soft by 20", proof.soft(0, 0, 20), 0);
    }

    private static void softIsFromTheLeastToTheGreatest() {
        int[] shades = {49, 50, 75, 100, 101};
        int[] due = {0, 1, 1, 1, 0};
        for (int i = 0; i < shades.length; i++) {
            PictureProof proof = new PictureProof();
            proof.paint(0, 0, 0, 8, 8, 255);
            proof.paint(0, 4, 4, 1, 1, shades[i]);
            proof.approve(0, 0);
            proof.paint(0, 0, 0, 8, 8, 50);
            proof.paint(0, 5, 5, 1, 1, 100);
            CHECKS.same("soft with " + shades[i], proof.soft(0, 0, 10), due[i]);
            CHECKS.same("soft by 49 with " + shades[i], proof.soft(0, 0, 49), due[i]);
            CHECKS.same("soft by 50 with " + shades[i], proof.soft(0, 0, 50), 0);
        }
    }

    private static void softAtCornersAndEdges() {
        for (int row = 0; row < 8; row++) {
            for (int column = 0; column < 8; column++) {
                PictureProof proof = approved(0);
                proof.paint(0, column, row, 1, 1, 50);
                int wide = column == 0 || column == 7 ? 2 : 3;
                int high = row == 0 || row == 7 ? 2 : 3;
                CHECKS.same("soft round " + column + ", " + row, proof.soft(0, 0, 0), wide * high);
            }
        }
    }

    private static void softCellsDoNotDiffer() {
        PictureProof proof = new PictureProof();
        proof.paint(0, 0, 0, 4, 8, 200);
        proof.approve(0, 0);
        proof.paint(0, 3, 0, 1, 8, 100);
        CHECKS.same("a softened edge", proof.differences(0, 0, 0), 0);
        CHECKS.same("its soft cells", proof.soft(0, 0, 0), 24);
        proof.paint(0, 3, 0, 1, 8, 0);
        CHECKS.same("an edge that went by one", proof.differences(0, 0, 0), 0);
        proof.paint(0, 2, 0, 1, 8, 0);
        CHECKS.same("an edge that went by two", proof.differences(0, 0, 0), 8);
        CHECKS.same("its first", proof.firstDifference(0, 0, 0), 3);
        CHECKS.same("no cell is soft by 200", proof.soft(0, 0, 200), 0);
        CHECKS.same("nor unlike", proof.differences(0, 0, 200), 0);
    }

    private static void softCountsAlikeCells() {
        PictureProof proof = new PictureProof();
        proof.paint(0, 0, 0, 4, 8, 200);
        proof.approve(0, 0);
        CHECKS.same("differences of the same", proof.differences(0, 0, 0), 0);
        CHECKS.same("soft of the same", proof.soft(0, 0, 0), 16);
        proof.setPart(0, 0, 0, 8, 8);
        proof.setMask(0, 0, 0, 8, 8);
        CHECKS.same("soft below a mask", proof.soft(0, 0, 0), 16);
    }

    /** A part of two by two cells at 3, 3 is approved, then gone, then put where it is told. */
    private static PictureProof movedBy(int columns, int rows) {
        PictureProof proof = new PictureProof();
        stamp(proof, 3, 3, 0);
        proof.approve(0, 0);
        proof.setPart(0, 3, 3, 2, 2);
        proof.paint(0, 0, 0, 8, 8, 0);
        stamp(proof, 3 + columns, 3 + rows, 0);
        return proof;
    }

    private static void stamp(PictureProof proof, int column, int row, int more) {
        proof.paint(0, column, row, 1, 1, 100 + more);
        proof.paint(0, column + 1, row, 1, 1, 120 + more);
        proof.paint(0, column, row + 1, 1, 1, 140 + more);
        proof.paint(0, column + 1, row + 1, 1, 1, 160 + more);
    }

    private static void moveAnswersRowsAndColumns() {
        for (int rows = -2; rows <= 2; rows++) {
            for (int columns = -2; columns <= 2; columns++) {
                PictureProof proof = movedBy(columns, rows);
                CHECKS.same("move", proof.move(0, 0, 0), 100 * (rows + 50) + columns + 50);
                CHECKS.same("differences of a move", proof.differences(0, 0, 0), 0);
            }
        }
    }

    private static void moveReachesTwoAndNoFarther() {
        CHECKS.same("three columns", movedBy(3, 0).move(0, 0, 0), 5050);
        CHECKS.same("three columns back", movedBy(-3, 0).move(0, 0, 0), 5050);
        CHECKS.same("three rows", movedBy(0, 3).move(0, 0, 0), 5050);
        CHECKS.same("three rows up", movedBy(0, -3).move(0, 0, 0), 5050);
        CHECKS.same("no move, no moved cells", movedBy(3, 0).differences(0, 0, 0) > 0, true);
    }

    private static void moveByTheBound() {
        PictureProof proof = movedBy(2, -1);
        stamp(proof, 5, 2, 7);
        CHECKS.same("move by 6", proof.move(0, 0, 6), 5050);
        CHECKS.same("move by 7", proof.move(0, 0, 7), 4952);
        proof.paint(0, 6, 3, 1, 1, 153);
        CHECKS.same("move with one below by 7", proof.move(0, 0, 7), 4952);
        proof.paint(0, 6, 3, 1, 1, 152);
        CHECKS.same("move with one farther below by 7", proof.move(0, 0, 7), 5050);
        CHECKS.same("move by 8", proof.move(0, 0, 8), 4952);
    }

    /** One cell of 100 is approved at 3, 3, and stands then where places tell columns and rows. */
    private static int moveTo(int... places) {
        PictureProof proof = new PictureProof();
        proof.paint(0, 3, 3, 1, 1, 100);
        proof.approve(0, 0);
        proof.setPart(0, 3, 3, 1, 1);
        proof.paint(0, 3, 3, 1, 1, 0);
        for (int i = 0; i + 1 < places.length; i += 2) {
            proof.paint(0, 3 + places[i], 3 + places[i + 1], 1, 1, 100);
        }
        return proof.move(0, 0, 0);
    }

    private static void moveTakesTheFewestSteps() {
        CHECKS.same("0, 1 before 0, -2", moveTo(0, -2, 0, 1), 5150);
        CHECKS.same("1, 1 before -2, -1", moveTo(-2, -1, 1, 1), 5151);
        CHECKS.same("2, 0 before -1, -2", moveTo(-1, -2, 2, 0), 5052);
        CHECKS.same("1, 2 before -2, -2", moveTo(-2, -2, 1, 2), 5251);
        CHECKS.same("1, 0 before all else", moveTo(-2, -2, -1, -1, 0, -2, 1, 0), 5051);
    }

    private static void moveTakesTheLowestRowsThenColumns() {
        CHECKS.same("up of the four beside", moveTo(0, -1, -1, 0, 1, 0, 0, 1), 4950);
        CHECKS.same("left of three beside", moveTo(-1, 0, 1, 0, 0, 1), 5049);
        CHECKS.same("right of two beside", moveTo(1, 0, 0, 1), 5051);
        CHECKS.same("1, -1 before -1, 1", moveTo(-1, 1, 1, -1), 4951);
        CHECKS.same("-1, -1 before 1, -1", moveTo(1, -1, -1, -1), 4949);
        CHECKS.same("1, -1 before -2, 0", moveTo(-2, 0, 1, -1), 4951);
        CHECKS.same("-2, 0 before 2, 0", moveTo(2, 0, -2, 0), 5048);
        CHECKS.same("2, -1 before -1, 2", moveTo(-1, 2, 2, -1), 4952);
        CHECKS.same("0, -2 before -1, -1", moveTo(-1, -1, 0, -2), 4850);
    }

    private static void movedPartsStayInThePicture() {
        int[][] corners = {{0, 0, 5051}, {7, 0, 5049}, {0, 7, 4950}, {7, 7, 4950}};
        for (int[] corner : corners) {
            PictureProof proof = approved(0);
            proof.setPart(0, corner[0], corner[1], 1, 1);
            proof.paint(0, corner[0], corner[1], 1, 1, 9);
            CHECKS.same("a corner's move", proof.move(0, 0, 0), corner[2]);
        }
        PictureProof whole = approved(0);
        whole.setPart(0, 0, 0, 8, 8);
        whole.paint(0, 0, 0, 8, 8, 9);
        CHECKS.same("the whole picture can't move", whole.move(0, 0, 0), 5050);
        PictureProof wide = approved(0);
        wide.paint(0, 0, 0, 8, 1, 9);
        wide.setPart(0, 0, 0, 8, 1);
        CHECKS.same("a row moves down alone", wide.move(0, 0, 0), 5150);
        // Rows are joined end to end inside the object: a part must not go round the edge.
        PictureProof round = new PictureProof();
        round.paint(0, 0, 0, 8, 8, 30);
        round.paint(0, 7, 3, 1, 1, 200);
        round.approve(0, 0);
        round.setPart(0, 7, 3, 1, 1);
        round.paint(0, 7, 3, 1, 1, 30);
        round.paint(0, 0, 4, 1, 1, 200);
        CHECKS.same("no move round the edge", round.move(0, 0, 0), 5050);
    }

    private static void aPartInPlaceHasNotMoved() {
        PictureProof proof = approved(60);
        proof.setPart(0, 2, 2, 2, 2);
        CHECKS.same("in place", proof.move(0, 0, 0), 5050);
        proof.paint(0, 2, 2, 2, 2, 65);
        CHECKS.same("in place by 5", proof.move(0, 0, 5), 5050);
        CHECKS.same("not in place by 4", proof.move(0, 0, 4), 4850);
    }

    private static void onePartCellUnlikeIsNoMove() {
        int[][] places = {{4, 3}, {5, 3}, {4, 4}, {5, 4}};
        for (int[] place : places) {
            PictureProof proof = movedBy(1, 0);
            proof.paint(0, place[0], place[1], 1, 1, 10);
            CHECKS.same("one cell is unlike", proof.move(0, 0, 0), 5050);
        }
    }

    private static void movedCellsDoNotDiffer() {
        PictureProof proof = new PictureProof();
        proof.paint(0, 0, 0, 8, 8, 100);
        proof.paint(0, 3, 3, 1, 1, 255);
        proof.approve(0, 0);
        proof.setPart(0, 3, 3, 1, 1);
        proof.paint(0, 0, 0, 8, 8, 50);
        proof.paint(0, 5, 3, 1, 1, 255);
        CHECKS.same("the move", proof.move(0, 0, 0), 5052);
        // Unlike are all cells; soft are the nine round 5, 3, and moved are 3, 3 and 5, 3.
        CHECKS.same("soft cells", proof.soft(0, 0, 0), 9);
        CHECKS.same("differences", proof.differences(0, 0, 0), 64 - 9 - 1);
        proof.setPart(0, 0, 0, 1, 1);
        CHECKS.same("differences without that move", proof.differences(0, 0, 0), 64 - 9);
        PictureProof to = new PictureProof();
        to.paint(0, 0, 0, 8, 8, 10);
        to.paint(0, 2, 2, 1, 1, 0);
        to.approve(0, 0);
        to.setPart(0, 2, 2, 1, 1);
        to.paint(0, 2, 2, 1, 1, 10);
        to.paint(0, 4, 2, 1, 1, 0);
        CHECKS.same("where it has moved to", to.differences(0, 0, 0), 0);
        CHECKS.same("the first of none", to.firstDifference(0, 0, 0), -1);
    }

    private static PictureProof maskedPart(int column, int row) {
        PictureProof proof = approved(0);
        proof.paint(0, 0, 0, 8, 8, 200);
        proof.setPart(0, column, row, 1, 1);
        return proof;
    }

    private static void masksStandBesideThePart() {
        PictureProof proof = maskedPart(3, 3);
        proof.setMask(0, -3, -3, 4, 2);
        CHECKS.same("a mask ahead", proof.differences(0, 0, 0), 56);
        CHECKS.same("the first beside it", proof.firstDifference(0, 0, 0), 4);
        proof.setMask(0, 0, 0, 8, 8);
        CHECKS.same("a mask from the part on", proof.differences(0, 0, 0), 39);
        proof.setMask(0, -2, -3, 2, 8);
        CHECKS.same("a mask of two columns", proof.differences(0, 0, 0), 48);
        CHECKS.same("the first ahead of it", proof.firstDifference(0, 0, 0), 0);
        proof.setMask(0, -3, 1, 8, 1);
        CHECKS.same("a mask of one row", proof.differences(0, 0, 0), 56);
        CHECKS.same("the first above it", proof.firstDifference(0, 0, 0), 0);
    }

    private static void masksMoveWithThePart() {
        for (int rows = -2; rows <= 2; rows++) {
            for (int columns = -2; columns <= 2; columns++) {
                for (int cell = 0; cell < 64; cell++) {
                    oneDifference(columns, rows, cell);
                }
            }
        }
    }

    /** One cell is too dark to be soft; a mask of 2 by 1 begins 2 columns and 3 rows behind the part. */
    private static void oneDifference(int columns, int rows, int cell) {
        int column = cell % 8;
        int row = cell / 8;
        if (column == 2 && row == 2) {
            return;
        }
        PictureProof proof = new PictureProof();
        proof.paint(0, 0, 0, 8, 8, 60);
        proof.paint(0, 2, 2, 1, 1, 255);
        proof.paint(0, column, row, 1, 1, 10);
        proof.approve(0, 0);
        proof.setPart(0, 2, 2, 1, 1);
        proof.setMask(0, 2, 3, 2, 1);
        proof.paint(0, 0, 0, 8, 8, 60);
        proof.paint(0, 2 + columns, 2 + rows, 1, 1, 255);
        boolean masked = row == 5 + rows && (column == 4 + columns || column == 5 + columns);
        boolean moved = row == 2 + rows && column == 2 + columns;
        String what = "cell " + cell + " with a move by " + columns + ", " + rows;
        CHECKS.same(what, proof.differences(0, 0, 0), masked || moved ? 0 : 1);
        CHECKS.same(what, proof.firstDifference(0, 0, 0), masked || moved ? -1 : cell);
    }

    private static void masksBeyondThePicture() {
        PictureProof proof = maskedPart(7, 7);
        proof.setMask(0, 8, 8, 8, 8);
        CHECKS.same("a mask wholly beyond", proof.differences(0, 0, 0), 64);
        proof.setMask(0, 1, 0, 1, 1);
        CHECKS.same("a mask beside the picture", proof.differences(0, 0, 0), 64);
        proof.setMask(0, -1, -1, 8, 8);
        CHECKS.same("a mask half beyond", proof.differences(0, 0, 0), 60);
        proof.setMask(0, -8, -8, 8, 8);
        CHECKS.same("a mask that begins ahead of it", proof.differences(0, 0, 0), 64 - 49);
        PictureProof first = maskedPart(0, 0);
        first.setMask(0, -8, -8, 8, 8);
        CHECKS.same("a mask wholly ahead", first.differences(0, 0, 0), 64);
        first.setMask(0, -1, -1, 2, 2);
        CHECKS.same("a mask of one cell within", first.differences(0, 0, 0), 63);
        CHECKS.same("which is the first", first.firstDifference(0, 0, 0), 1);
    }
}
