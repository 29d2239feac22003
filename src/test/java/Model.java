import java.util.ArrayList;
import java.util.HashSet;
import java.util.List;
import java.util.Set;

/** The document told once more, in its own order and without care for speed; arguments are in range. */
final class Model {
    final int[][][] pictures = new int[5][8][8];
    private final int[][][][] approved = new int[4][5][][];
    private final int[][][][] bases = new int[4][5][][];
    private final int[][] parts = new int[5][];
    private final int[][] masks = new int[5][];
    private final List<List<Boolean>> histories = new ArrayList<>();

    Model() {
        for (int test = 0; test < 5; test++) {
            histories.add(new ArrayList<>());
        }
    }

    int paint(int test, int column, int row, int width, int height, int shade) {
        int changed = 0;
        for (int r = 0; r < 8; r++) {
            for (int c = 0; c < 8; c++) {
                boolean inside = c >= column && r >= row && c < column + width && r < row + height;
                if (inside && pictures[test][r][c] != shade) {
                    pictures[test][r][c] = shade;
                    changed++;
                }
            }
        }
        return changed;
    }

    void setPart(int test, int column, int row, int width, int height) {
        parts[test] = new int[] {column, row, width, height};
        masks[test] = null;
    }

    boolean hasPart(int test) {
        return parts[test] != null;
    }

    void setMask(int test, int columns, int rows, int width, int height) {
        masks[test] = new int[] {columns, rows, width, height};
    }

    boolean approve(int branch, int test) {
        boolean had = approved[branch][test] != null;
        approved[branch][test] = copy(pictures[test]);
        return had;
    }

    boolean isApproved(int branch, int test) {
        return approved[branch][test] != null;
    }

    int begin(int branch) {
        int count = 0;
        for (int test = 0; test < 5; test++) {
            approved[branch][test] = approved[0][test];
            bases[branch][test] = approved[0][test];
            count += approved[0][test] == null ? 0 : 1;
        }
        return count;
    }

    int join(int branch) {
        int clashes = 0;
        for (int test = 0; test < 5; test++) {
            int[][] own = approved[branch][test];
            int[][] base = bases[branch][test];
            int[][] main = approved[0][test];
            if (!same(own, base)) {
                if (same(main, base)) {
                    approved[0][test] = own;
                } else if (!same(own, main)) {
                    clashes += 1 << test;
                    continue;
                }
            }
            bases[branch][test] = approved[0][test];
            approved[branch][test] = approved[0][test];
        }
        return clashes;
    }

    private static int[][] copy(int[][] picture) {
        int[][] copy = new int[8][];
        for (int row = 0; row < 8; row++) {
            copy[row] = picture[row].clone();
        }
        return copy;
    }

    private static boolean same(int[][] one, int[][] other) {
        return java.util.Arrays.deepEquals(one, other);
    }

    /** The cells that differ, by their numbers, the lowest first. */
    List<Integer> differing(int branch, int test, int bound) {
        int[] move = moved(branch, test, bound);
        Set<Integer> moved = new HashSet<>();
        Set<Integer> masked = new HashSet<>();
        int[] part = parts[test];
        int[] mask = masks[test];
        if (move[0] != 0 || move[1] != 0) {
            add(moved, part[0], part[1], part[2], part[3]);
            add(moved, part[0] + move[0], part[1] + move[1], part[2], part[3]);
        }
        if (mask != null) {
            add(masked, part[0] + mask[0] + move[0], part[1] + mask[1] + move[1], mask[2], mask[3]);
        }
        List<Integer> cells = new ArrayList<>();
        for (int cell = 0; cell < 64; cell++) {
            int drawn = pictures[test][cell / 8][cell % 8];
            int due = approved[branch][test][cell / 8][cell % 8];
            if (!alike(drawn, due, bound) && !isSoft(branch, test, bound, cell)
                    && !moved.contains(cell) && !masked.contains(cell)) {
                cells.add(cell);
            }
        }
        return cells;
    }

    private static void add(Set<Integer> cells, int column, int row, int width, int height) {
        for (int r = row; r < row + height; r++) {
            for (int c = column; c < column + width; c++) {
                if (r >= 0 && r < 8 && c >= 0 && c < 8) {
                    cells.add(8 * r + c);
                }
            }
        }
    }

    private static boolean alike(int one, int other, int bound) {
        return one - other <= bound && other - one <= bound;
    }

    boolean isSoft(int branch, int test, int bound, int cell) {
        List<Integer> near = new ArrayList<>();
        for (int other = 0; other < 64; other++) {
            if (Math.abs(other / 8 - cell / 8) < 2 && Math.abs(other % 8 - cell % 8) < 2) {
                near.add(pictures[test][other / 8][other % 8]);
            }
        }
        boolean allAlike = true;
        boolean below = false;
        boolean above = false;
        int due = approved[branch][test][cell / 8][cell % 8];
        for (int one : near) {
            below |= one <= due;
            above |= one >= due;
            for (int other : near) {
                allAlike &= alike(one, other, bound);
            }
        }
        return !allAlike && below && above;
    }

    int soft(int branch, int test, int bound) {
        int count = 0;
        for (int cell = 0; cell < 64; cell++) {
            count += isSoft(branch, test, bound, cell) ? 1 : 0;
        }
        return count;
    }

    /** Columns and rows of the move, both 0 for none. */
    int[] moved(int branch, int test, int bound) {
        int[] none = {0, 0};
        if (parts[test] == null || fits(branch, test, bound, none)) {
            return none;
        }
        List<int[]> moves = new ArrayList<>();
        for (int columns = 2; columns >= -2; columns--) {
            for (int rows = 2; rows >= -2; rows--) {
                int[] move = {columns, rows};
                if ((columns != 0 || rows != 0) && fits(branch, test, bound, move)) {
                    moves.add(move);
                }
            }
        }
        moves.sort((a, b) -> {
            int stepsA = Math.abs(a[0]) + Math.abs(a[1]);
            int stepsB = Math.abs(b[0]) + Math.abs(b[1]);
            if (stepsA != stepsB) {
                return stepsA - stepsB;
            }
            return a[1] != b[1] ? a[1] - b[1] : a[0] - b[0];
        });
        return moves.isEmpty() ? none : moves.get(0);
    }

    private boolean fits(int branch, int test, int bound, int[] move) {
        int[] part = parts[test];
        for (int row = 0; row < part[3]; row++) {
            for (int column = 0; column < part[2]; column++) {
                int c = part[0] + column;
                int r = part[1] + row;
                int toColumn = c + move[0];
                int toRow = r + move[1];
                if (toColumn < 0 || toColumn > 7 || toRow < 0 || toRow > 7) {
                    return false;
                }
                if (!alike(pictures[test][toRow][toColumn], approved[branch][test][r][c], bound)) {
                    return false;
                }
            }
        }
        return true;
    }

    boolean run(int branch, int test, int bound) {
        boolean passes = differing(branch, test, bound).isEmpty();
        histories.get(test).add(passes);
        return passes;
    }

    private List<Boolean> history(int test) {
        List<Boolean> all = histories.get(test);
        return all.subList(Math.max(0, all.size() - 10), all.size());
    }

    int runs(int test) {
        return history(test).size();
    }

    int doubt(int test) {
        List<Boolean> history = history(test);
        int changes = 0;
        for (int i = 1; i < history.size(); i++) {
            changes += history.get(i).equals(history.get(i - 1)) ? 0 : 1;
        }
        return history.size() < 2 ? 0 : 100 * changes / (history.size() - 1);
    }

    /** Its left column, top row, width and height. */
    int[] partOf(int test) {
        return parts[test];
    }

    int approvedShade(int branch, int test, int column, int row) {
        return approved[branch][test][row][column];
    }
}
