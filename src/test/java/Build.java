/** Objects that tests start with, and what tests of many calls do with them. */
final class Build {
    static final Class<IndexOutOfBoundsException> OUTSIDE = IndexOutOfBoundsException.class;
    static final Class<IllegalArgumentException> ARGUMENT = IllegalArgumentException.class;
    static final Class<IllegalStateException> STATE = IllegalStateException.class;
    static final int LEAST = Integer.MIN_VALUE;
    static final int MOST = Integer.MAX_VALUE;
    /** The row and column of the square on each side, beside that of a square. */
    static final int[][] STEPS = {{-1, 0}, {0, 1}, {1, 0}, {0, -1}};

    private Build() {
    }

    interface Place {
        void on(NestedSums x, int table, int row, int column);
    }

    static NestedSums grid(int rows, int columns) {
        NestedSums x = new NestedSums();
        x.begin(rows, columns);
        return x;
    }

    /** Puts numbers by rows; 0 leaves a cell as it is. */
    static void numbers(NestedSums x, int table, int[][] rows) {
        for (int r = 0; r < rows.length; r++) {
            for (int c = 0; c < rows[r].length; c++) {
                if (rows[r][c] != 0) {
                    x.put(table, r, c, 1, rows[r][c]);
                }
            }
        }
    }

    /** Puts one number into all squares of a table that has but cells of one square. */
    static void fill(NestedSums x, int table, int number) {
        for (int r = 0; r < x.table(table, 0); r++) {
            for (int c = 0; c < x.table(table, 1); c++) {
                if (x.cell(table, r, c, 0) == 0) {
                    x.put(table, r, c, 1, number);
                }
            }
        }
    }

    /** A cell gets other squares, and then a number. */
    static void wide(NestedSums x, int row, int column, int rows, int columns, int number) {
        x.span(0, row, column, rows, columns);
        x.put(0, row, column, 1, number);
    }

    /** A cell gets a table of one column, as high as is told. */
    static void high(NestedSums x, int row, int column, int height) {
        int table = x.nest(0, row, column, height, 1);
        fill(x, table, 1);
    }

    /** As many tables within one another, each in the first cell of the one before it, of one square each. */
    static NestedSums chain(int tables) {
        NestedSums x = new NestedSums();
        for (int table = 1; table < tables; table++) {
            x.nest(table - 1, 0, 0, 1, 1);
        }
        return x;
    }

    /** The table 1, of 2 rows and 5 columns, in the middle of the table 0, whose row 2, column 1 is no cell. */
    static NestedSums places() {
        NestedSums x = new NestedSums();
        x.nest(0, 1, 1, 2, 5);
        x.span(0, 2, 0, 1, 2);
        return x;
    }

    /** The call throws if a table, a row or a column is just or far beyond what there is, and not at the last ones. */
    static void outside(Due due, Place call) {
        int[][] outside = {{-1, 0, 0}, {2, 0, 0}, {5, 0, 0}, {LEAST, 0, 0}, {MOST, 0, 0},
                {0, -1, 0}, {0, 3, 0}, {0, LEAST, 0}, {0, MOST, 0}, {0, 0, -1}, {0, 0, 3}, {0, 0, LEAST}, {0, 0, MOST},
                {1, 2, 0}, {1, 0, 5}, {1, -1, 0}, {1, 0, -1}, {0, 1, 4}, {1, 2, 2},
                {LEAST, LEAST, LEAST}, {MOST, MOST, MOST}};
        NestedSums x = places();
        for (int[] at : outside) {
            due.refuses(x, OUTSIDE, told(at), () -> call.on(x, at[0], at[1], at[2]));
        }
        for (int[] at : new int[][] {{0, 0, 0}, {0, 2, 2}, {1, 0, 0}, {1, 1, 4}}) {
            NestedSums y = places();
            due.accepts(told(at), () -> call.on(y, at[0], at[1], at[2]));
        }
    }

    /** The call throws for each square that a cell covers beside its first one, and not for that one. */
    static void noCell(Due due, Place call) {
        NestedSums x = new NestedSums();
        x.span(0, 0, 0, 2, 2);
        due.refuses(x, STATE, "to the right", () -> call.on(x, 0, 0, 1));
        due.refuses(x, STATE, "below", () -> call.on(x, 0, 1, 0));
        due.refuses(x, STATE, "the last one", () -> call.on(x, 0, 1, 1));
        due.accepts("the first one", () -> call.on(x, 0, 0, 0));
    }

    private static String told(int[] at) {
        return "table " + at[0] + ", row " + at[1] + ", column " + at[2];
    }
}
