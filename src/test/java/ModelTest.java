/** All promises: long runs of calls, the same each time, answered by the program and by the model alike. */
public final class ModelTest {
    private static final int OBJECTS = 1500;
    private static final int CALLS = 512;
    private static final int[] SHADES = {0, 0, 3, 8, 100, 104, 255};
    private static final int[] BOUNDS = {0, 0, 0, 3, 4, 8, 96, 151, 254, 255};
    private static final Checks CHECKS = new Checks();

    private long seed = 20261119;
    private PictureProof proof;
    private Model model;
    private int calls;

    public static void main(String[] args) {
        ModelTest test = new ModelTest();
        for (int object = 0; object < OBJECTS; object++) {
            test.useOne();
        }
        CHECKS.end("ModelTest");
    }

    private void useOne() {
        proof = new PictureProof();
        model = new Model();
        calls = 0;
        // Few tests and branches in most objects, so that calls meet one another.
        int tests = 1 + below(5);
        int branches = 2 + below(3);
        while (calls < CALLS - 30) {
            step(below(tests), below(branches));
        }
    }

    /** A number from 0 to less than the bound, the same in each run of the test. */
    private int below(int bound) {
        seed = seed * 6364136223846793005L + 1442695040888963407L;
        return (int) ((seed >>> 33) % bound);
    }

    private void same(String what, long got, long due) {
        calls++;
        CHECKS.same(what + " as call " + calls, got, due);
    }

    private void step(int test, int branch) {
        int bound = BOUNDS[below(BOUNDS.length)];
        switch (below(14)) {
            case 0, 1 -> paint(test);
            case 2 -> setPart(test);
            case 3 -> setMask(test);
            case 4 -> same("approve", Checks.number(proof.approve(branch, test)), Checks.number(model.approve(branch, test)));
            case 5 -> branches(branch);
            case 6 -> movePart(branch, test);
            case 7, 8 -> compare(branch, test, bound);
            case 9 -> {
                for (int i = 0; i < 3; i++) {
                    run(branch, test, BOUNDS[below(BOUNDS.length)]);
                }
            }
            case 10 -> paintSlightly(test);
            case 11 -> same("shade", proof.shade(test, below(8), 4), shadeAsDrawn(test));
            case 12 -> same("isApproved", Checks.number(proof.isApproved(branch, test)), Checks.number(model.isApproved(branch, test)));
            default -> {
                same("runs", proof.runs(test), model.runs(test));
                same("doubt", proof.doubt(test), model.doubt(test));
            }
        }
    }

    /** The column that below gave last stands in the seed still. */
    private int shadeAsDrawn(int test) {
        return model.pictures[test][4][(int) ((seed >>> 33) % 8)];
    }

    private void paint(int test) {
        int column = below(8);
        int row = below(8);
        int width = 1 + below(8 - column);
        int height = 1 + below(8 - row);
        paint(test, column, row, width, height, SHADES[below(SHADES.length)]);
    }

    private void paint(int test, int column, int row, int width, int height, int shade) {
        same("paint", proof.paint(test, column, row, width, height, shade),
                model.paint(test, column, row, width, height, shade));
    }

    private void paintSlightly(int test) {
        int column = below(8);
        int row = below(8);
        int shade = model.pictures[test][row][column] + below(11) - 5;
        paint(test, column, row, 1, 1, Math.max(0, Math.min(255, shade)));
    }

    private void setPart(int test) {
        int column = below(8);
        int row = below(8);
        int width = 1 + below(Math.min(3, 8 - column));
        int height = 1 + below(Math.min(3, 8 - row));
        proof.setPart(test, column, row, width, height);
        model.setPart(test, column, row, width, height);
        calls++;
    }

    private void setMask(int test) {
        int columns = below(17) - 8;
        int rows = below(17) - 8;
        int width = 1 + below(8);
        int height = 1 + below(8);
        long due = model.hasPart(test) ? 0 : Checks.REFUSED_STATE;
        same("setMask", Checks.answer(proof, p -> {
            p.setMask(test, columns, rows, width, height);
            return 0;
        }), due);
        if (due == 0) {
            model.setMask(test, columns, rows, width, height);
        }
    }

    private void branches(int branch) {
        if (branch == 0) {
            CHECKS.refusesArgument("begin of 0", proof, p -> p.begin(0));
            CHECKS.refusesArgument("join of 0", proof, p -> p.join(0));
            calls += 2;
        } else if (below(3) == 0) {
            same("begin", proof.begin(branch), model.begin(branch));
        } else {
            same("join", proof.join(branch), model.join(branch));
        }
    }

    /** Draws the approved part somewhere near, at times with one cell slightly off. */
    private void movePart(int branch, int test) {
        if (!model.isApproved(branch, test) || !model.hasPart(test)) {
            return;
        }
        int[] part = model.partOf(test);
        int columns = below(7) - 3;
        int rows = below(7) - 3;
        if (below(2) == 0) {
            paint(test, part[0], part[1], part[2], part[3], SHADES[below(SHADES.length)]);
        }
        for (int row = part[1]; row < part[1] + part[3]; row++) {
            for (int column = part[0]; column < part[0] + part[2]; column++) {
                int toColumn = column + columns;
                int toRow = row + rows;
                if (toColumn >= 0 && toColumn < 8 && toRow >= 0 && toRow < 8) {
                    int off = below(6) == 0 ? 3 : 0;
                    int shade = Math.min(255, model.approvedShade(branch, test, column, row) + off);
                    paint(test, toColumn, toRow, 1, 1, shade);
                }
            }
        }
        compare(branch, test, BOUNDS[below(BOUNDS.length)]);
    }

    private void compare(int branch, int test, int bound) {
        boolean refused = !model.isApproved(branch, test);
        long no = Checks.REFUSED_STATE;
        java.util.List<Integer> cells = refused ? java.util.List.of() : model.differing(branch, test, bound);
        int[] move = refused ? new int[2] : model.moved(branch, test, bound);
        int first = cells.isEmpty() ? -1 : cells.get(0);
        same("differences", Checks.answer(proof, p -> p.differences(branch, test, bound)), refused ? no : cells.size());
        same("firstDifference", Checks.answer(proof, p -> p.firstDifference(branch, test, bound)), refused ? no : first);
        same("move", Checks.answer(proof, p -> p.move(branch, test, bound)), refused ? no : 100 * (move[1] + 50) + move[0] + 50);
        same("soft", Checks.answer(proof, p -> p.soft(branch, test, bound)), refused ? no : model.soft(branch, test, bound));
    }

    private void run(int branch, int test, int bound) {
        long due = model.isApproved(branch, test) ? Checks.number(model.run(branch, test, bound)) : Checks.REFUSED_STATE;
        same("run", Checks.answer(proof, p -> Checks.number(p.run(branch, test, bound))), due);
    }
}
