/**
 * A comparer of pictures of pages: pictures as cells with a bound, soft edges that do not count,
 * masks that move with a named part, parts that moved as a whole, approved pictures by branch that
 * are taken over when branches join, and tests that flicker.
 */
public final class PictureProof {
    private static final int TESTS = 5;
    private static final int BRANCHES = 4;
    private static final int SIDE = 8;
    private static final int CELLS = 64;
    private static final int GREATEST_SHADE = 255;
    private static final int FARTHEST_MASK = 8;
    private static final int FARTHEST_MOVE = 2;
    private static final int NOT_MOVED = 5050;
    private static final int LONGEST_HISTORY = 10;

    /** The picture of each test, then the approved pictures and the bases, by branch and test. */
    private static final int SLOTS = TESTS + 2 * BRANCHES * TESTS;

    private final Pictures pictures = new Pictures();
    private final Rectangles parts = new Rectangles();
    private final Rectangles masks = new Rectangles();
    private final Histories histories = new Histories();

    public PictureProof() {
    }

    // ---- pictures

    public int paint(int test, int column, int row, int width, int height, int shade)
            throws IllegalArgumentException {
        checkArguments(isTest(test) && isRectangle(column, row, width, height) && isShade(shade));
        int changed = 0;
        for (int below = 0; below < height; below++) {
            for (int right = 0; right < width; right++) {
                if (pictures.put(pictureSlot(test), column + right, row + below, shade)) {
                    changed++;
                }
            }
        }
        return changed;
    }

    public int shade(int test, int column, int row) throws IllegalArgumentException {
        checkArguments(isTest(test) && isCell(column, row));
        return pictures.at(pictureSlot(test), column, row);
    }

    public void setPart(int test, int column, int row, int width, int height)
            throws IllegalArgumentException {
        checkArguments(isTest(test) && isRectangle(column, row, width, height));
        parts.put(test, column, row, width, height);
        masks.drop(test);
    }

    public void setMask(int test, int columns, int rows, int width, int height)
            throws IllegalArgumentException, IllegalStateException {
        checkArguments(isTest(test)
                && isWithin(columns, -FARTHEST_MASK, FARTHEST_MASK)
                && isWithin(rows, -FARTHEST_MASK, FARTHEST_MASK)
                && isWithin(width, 1, SIDE)
                && isWithin(height, 1, SIDE));
        if (!parts.has(test)) {
            throw new IllegalStateException("the test has no part");
        }
        masks.put(test, columns, rows, width, height);
    }

    // ---- branches

    public boolean approve(int branch, int test) throws IllegalArgumentException {
        checkArguments(isBranch(branch) && isTest(test));
        int slot = approvedSlot(branch, test);
        boolean had = pictures.has(slot);
        pictures.copy(pictureSlot(test), slot);
        return had;
    }

    public int begin(int branch) throws IllegalArgumentException {
        checkArguments(isSideBranch(branch));
        int count = 0;
        for (int test = 0; test < TESTS; test++) {
            followMain(branch, test);
            if (pictures.has(approvedSlot(branch, test))) {
                count++;
            }
        }
        return count;
    }

    public int join(int branch) throws IllegalArgumentException {
        checkArguments(isSideBranch(branch));
        int clashing = 0;
        for (int test = 0; test < TESTS; test++) {
            if (clashes(branch, test)) {
                clashing |= 1 << test;
            } else {
                takeOver(branch, test);
                followMain(branch, test);
            }
        }
        return clashing;
    }

    public boolean isApproved(int branch, int test) throws IllegalArgumentException {
        checkArguments(isBranch(branch) && isTest(test));
        return pictures.has(approvedSlot(branch, test));
    }

    // ---- comparing

    public int differences(int branch, int test, int bound)
            throws IllegalArgumentException, IllegalStateException {
        checkComparison(branch, test, bound);
        int approved = approvedSlot(branch, test);
        int move = findMove(approved, test, bound);
        int count = 0;
        for (int cell = 0; cell < CELLS; cell++) {
            if (differs(approved, test, bound, move, cell)) {
                count++;
            }
        }
        return count;
    }

    public int firstDifference(int branch, int test, int bound)
            throws IllegalArgumentException, IllegalStateException {
        checkComparison(branch, test, bound);
        return findDifference(approvedSlot(branch, test), test, bound);
    }

    public int move(int branch, int test, int bound)
            throws IllegalArgumentException, IllegalStateException {
        checkComparison(branch, test, bound);
        return findMove(approvedSlot(branch, test), test, bound);
    }

    public int soft(int branch, int test, int bound)
            throws IllegalArgumentException, IllegalStateException {
        checkComparison(branch, test, bound);
        int approved = approvedSlot(branch, test);
        int count = 0;
        for (int cell = 0; cell < CELLS; cell++) {
            if (isSoft(approved, test, bound, columnOf(cell), rowOf(cell))) {
                count++;
            }
        }
        return count;
    }

    // ---- runs

    public boolean run(int branch, int test, int bound)
            throws IllegalArgumentException, IllegalStateException {
        checkComparison(branch, test, bound);
        boolean passes = findDifference(approvedSlot(branch, test), test, bound) < 0;
        histories.add(test, passes);
        return passes;
    }

    public int runs(int test) throws IllegalArgumentException {
        checkArguments(isTest(test));
        return histories.length(test);
    }

    public int doubt(int test) throws IllegalArgumentException {
        checkArguments(isTest(test));
        int places = histories.length(test) - 1;
        if (places < 1) {
            return 0;
        }
        return 100 * histories.changes(test) / places;
    }

    // ---- what arguments may be

    private static void checkArguments(boolean inRange) {
        if (!inRange) {
            throw new IllegalArgumentException("an argument is out of range");
        }
    }

    private void checkComparison(int branch, int test, int bound) {
        checkArguments(isBranch(branch) && isTest(test) && isShade(bound));
        if (!pictures.has(approvedSlot(branch, test))) {
            throw new IllegalStateException("there is no approved picture");
        }
    }

    private static boolean isWithin(int value, int least, int greatest) {
        return value >= least && value <= greatest;
    }

    private static boolean isTest(int test) {
        return isWithin(test, 0, TESTS - 1);
    }

    private static boolean isBranch(int branch) {
        return isWithin(branch, 0, BRANCHES - 1);
    }

    private static boolean isSideBranch(int branch) {
        return isWithin(branch, 1, BRANCHES - 1);
    }

    private static boolean isShade(int shade) {
        return isWithin(shade, 0, GREATEST_SHADE);
    }

    private static boolean isCell(int column, int row) {
        return isWithin(column, 0, SIDE - 1) && isWithin(row, 0, SIDE - 1);
    }

    private static boolean isRectangle(int column, int row, int width, int height) {
        return isCell(column, row)
                && isWithin(width, 1, SIDE - column)
                && isWithin(height, 1, SIDE - row);
    }

    // ---- where things are

    private static int pictureSlot(int test) {
        return test;
    }

    private static int approvedSlot(int branch, int test) {
        return TESTS + branch * TESTS + test;
    }

    private static int baseSlot(int branch, int test) {
        return TESTS + BRANCHES * TESTS + branch * TESTS + test;
    }

    private static int columnOf(int cell) {
        return cell % SIDE;
    }

    private static int rowOf(int cell) {
        return cell / SIDE;
    }

    // ---- how branches join

    private boolean clashes(int branch, int test) {
        int own = approvedSlot(branch, test);
        int main = approvedSlot(0, test);
        int base = baseSlot(branch, test);
        return !pictures.same(own, base) && !pictures.same(main, base) && !pictures.same(own, main);
    }

    private void takeOver(int branch, int test) {
        int own = approvedSlot(branch, test);
        int main = approvedSlot(0, test);
        int base = baseSlot(branch, test);
        // Without a clash, a branch 0 that has left the base has nothing to take: the branch
        // has its base still, or the same as the branch 0.
        if (pictures.same(main, base)) {
            pictures.copy(own, main);
        }
    }

    private void followMain(int branch, int test) {
        pictures.copy(approvedSlot(0, test), baseSlot(branch, test));
        pictures.copy(approvedSlot(0, test), approvedSlot(branch, test));
    }

    // ---- how pictures are compared

    private int findDifference(int approved, int test, int bound) {
        int move = findMove(approved, test, bound);
        for (int cell = 0; cell < CELLS; cell++) {
            if (differs(approved, test, bound, move, cell)) {
                return cell;
            }
        }
        return -1;
    }

    private boolean differs(int approved, int test, int bound, int move, int cell) {
        int column = columnOf(cell);
        int row = rowOf(cell);
        int drawn = pictures.at(pictureSlot(test), column, row);
        int due = pictures.at(approved, column, row);
        return !isAlike(drawn, due, bound)
                && !isMoved(test, move, column, row)
                && !isMasked(test, move, column, row)
                && !isSoft(approved, test, bound, column, row);
    }

    private static boolean isAlike(int one, int other, int bound) {
        return Math.abs(one - other) <= bound;
    }

    private boolean isSoft(int approved, int test, int bound, int column, int row) {
        int least = GREATEST_SHADE;
        int greatest = 0;
        int lastRow = Math.min(row + 1, SIDE - 1);
        int lastColumn = Math.min(column + 1, SIDE - 1);
        for (int nearRow = Math.max(row - 1, 0); nearRow <= lastRow; nearRow++) {
            for (int near = Math.max(column - 1, 0); near <= lastColumn; near++) {
                int drawn = pictures.at(pictureSlot(test), near, nearRow);
                least = Math.min(least, drawn);
                greatest = Math.max(greatest, drawn);
            }
        }
        // All are alike to one another just when the least and the greatest of them are.
        return !isAlike(least, greatest, bound)
                && isWithin(pictures.at(approved, column, row), least, greatest);
    }

    private boolean isMoved(int test, int move, int column, int row) {
        if (move == NOT_MOVED) {
            return false;
        }
        return parts.holds(test, column, row)
                || parts.holds(test, column - columnsOf(move), row - rowsOf(move));
    }

    private boolean isMasked(int test, int move, int column, int row) {
        int columns = column - columnsOf(move) - parts.left(test);
        int rows = row - rowsOf(move) - parts.top(test);
        return masks.holds(test, columns, rows);
    }

    // ---- how parts move; a move is told by the number that the method move answers

    private static int moveBy(int columns, int rows) {
        return NOT_MOVED + 100 * rows + columns;
    }

    private static int columnsOf(int move) {
        return move % 100 - 50;
    }

    private static int rowsOf(int move) {
        return move / 100 - 50;
    }

    private int findMove(int approved, int test, int bound) {
        if (!parts.has(test) || fits(approved, test, bound, 0, 0)) {
            return NOT_MOVED;
        }
        int found = NOT_MOVED;
        int least = 2 * FARTHEST_MOVE + 1;
        // Rows and then columns rise, so of several moves as short the first one found is due.
        for (int rows = -FARTHEST_MOVE; rows <= FARTHEST_MOVE; rows++) {
            for (int columns = -FARTHEST_MOVE; columns <= FARTHEST_MOVE; columns++) {
                int steps = Math.abs(rows) + Math.abs(columns);
                if (steps < least && fits(approved, test, bound, columns, rows)) {
                    least = steps;
                    found = moveBy(columns, rows);
                }
            }
        }
        return found;
    }

    private boolean fits(int approved, int test, int bound, int columns, int rows) {
        int bottom = parts.bottom(test);
        int right = parts.right(test);
        for (int row = parts.top(test); row < bottom; row++) {
            for (int column = parts.left(test); column < right; column++) {
                if (!isCell(column + columns, row + rows)) {
                    return false;
                }
                int drawn = pictures.at(pictureSlot(test), column + columns, row + rows);
                if (!isAlike(drawn, pictures.at(approved, column, row), bound)) {
                    return false;
                }
            }
        }
        return true;
    }

    /** Slots for pictures, made once, so that no call makes an array; a slot may hold none. */
    private static final class Pictures {
        private final int[] shades = new int[SLOTS * CELLS];
        private final boolean[] held = new boolean[SLOTS];

        Pictures() {
            for (int test = 0; test < TESTS; test++) {
                held[test] = true;
            }
        }

        private static boolean isSlot(int slot) {
            return isWithin(slot, 0, SLOTS - 1);
        }

        private static int place(int slot, int column, int row) {
            return slot * CELLS + row * SIDE + column;
        }

        boolean has(int slot) {
            return isSlot(slot) && held[slot];
        }

        int at(int slot, int column, int row) {
            if (!isSlot(slot) || !isCell(column, row)) {
                return 0;
            }
            return shades[place(slot, column, row)];
        }

        /** Answers whether the cell has changed. */
        boolean put(int slot, int column, int row, int shade) {
            if (!isSlot(slot) || !isCell(column, row)) {
                return false;
            }
            int place = place(slot, column, row);
            boolean changes = shades[place] != shade;
            shades[place] = shade;
            return changes;
        }

        void copy(int from, int to) {
            if (!isSlot(from) || !isSlot(to)) {
                return;
            }
            System.arraycopy(shades, from * CELLS, shades, to * CELLS, CELLS);
            held[to] = held[from];
        }

        boolean same(int one, int other) {
            if (!has(one) || !has(other)) {
                return has(one) == has(other);
            }
            for (int cell = 0; cell < CELLS; cell++) {
                if (shades[one * CELLS + cell] != shades[other * CELLS + cell]) {
                    return false;
                }
            }
            return true;
        }
    }

    /** A rectangle for each test; one that holds no cell stands for none. */
    private static final class Rectangles {
        private final int[] lefts = new int[TESTS];
        private final int[] tops = new int[TESTS];
        private final int[] rights = new int[TESTS];
        private final int[] bottoms = new int[TESTS];

        void put(int test, int left, int top, int width, int height) {
            if (!isTest(test)) {
                return;
            }
            lefts[test] = left;
            tops[test] = top;
            rights[test] = left + width;
            bottoms[test] = top + height;
        }

        void drop(int test) {
            put(test, 0, 0, 0, 0);
        }

        boolean has(int test) {
            return isTest(test) && lefts[test] < rights[test];
        }

        boolean holds(int test, int column, int row) {
            return isTest(test)
                    && column >= lefts[test] && column < rights[test]
                    && row >= tops[test] && row < bottoms[test];
        }

        int left(int test) {
            return isTest(test) ? lefts[test] : 0;
        }

        int top(int test) {
            return isTest(test) ? tops[test] : 0;
        }

        /** The first column behind it. */
        int right(int test) {
            return isTest(test) ? rights[test] : 0;
        }

        /** The first row below it. */
        int bottom(int test) {
            return isTest(test) ? bottoms[test] : 0;
        }
    }

    /** The last results of each test: a bit each, the newest lowest; forgotten ones stay above them. */
    private static final class Histories {
        private final int[] results = new int[TESTS];
        private final int[] lengths = new int[TESTS];

        void add(int test, boolean passes) {
            if (!isTest(test)) {
                return;
            }
            results[test] = (results[test] << 1) | (passes ? 1 : 0);
            lengths[test] = Math.min(lengths[test] + 1, LONGEST_HISTORY);
        }

        int length(int test) {
            return isTest(test) ? lengths[test] : 0;
        }

        int changes(int test) {
            if (!isTest(test) || lengths[test] < 2) {
                return 0;
            }
            // The oldest result has none before it, so its bit and all forgotten ones are left out.
            int places = (1 << (lengths[test] - 1)) - 1;
            int changes = results[test] ^ (results[test] >> 1);
            return Integer.bitCount(changes & places);
        }
    }
}
