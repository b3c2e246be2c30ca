/** Tests of the sentences of the promises 1 to 7: what is built, put, spanned, ruled and set. */
final class TablesSentences {
    private static final String NO_SQUARE = "Throws `IndexOutOfBoundsException` if there is no such table or square";
    private static final String NO_CELL = "Throws `IllegalStateException` if the square is no cell";

    private TablesSentences() {
    }

    static void all(Sentences s) {
        newObject(s);
        begin(s);
        nest(s);
        nestRefused(s);
        put(s);
        putRefused(s);
        span(s);
        spanRefused(s);
        spanOverOthers(s);
        rule(s);
        set(s);
    }

    private static void newObject(Sentences s) {
        s.promise(1);
        s.holds("Creates the table 0 with 3 rows and 3 columns of empty cells", "no more and no less", due -> {
            NestedSums x = new NestedSums();
            due.is("tables", x.count(0), 1);
            due.is("rows", x.table(0, 0), 3);
            due.is("columns", x.table(0, 1), 3);
            due.is("cells", x.count(1), 9);
            due.is("empty ones", x.count(2), 9);
            due.is("squares that are no cells", x.count(11), 0);
            due.is("edges with a rule", x.count(10), 0);
        });
        s.holds("with an empty buffer.", "nothing to clear, and room for 60", due -> {
            NestedSums x = new NestedSums();
            due.is("no error", x.firstError(), 0);
            due.is("its length", x.clearBuffer(), 0);
            due.is("the first character", x.append('a'), 1);
        });
        s.holds("Creates the table 0", "no state is saved, and another object does not matter", due -> {
            NestedSums other = new NestedSums();
            other.put(0, 0, 0, 1, 5);
            other.set(3);
            other.append('a');
            NestedSums x = new NestedSums();
            due.is("saved states", x.count(12), 0);
            due.is("its cell", x.cell(0, 0, 0, 0), 0);
            due.is("its buffer", x.clearBuffer(), 0);
            due.is("its setting", x.set(4), 10);
            due.is("the other's setting", other.set(5), 3);
        });
    }

    private static void begin(Sentences s) {
        s.promise(2);
        s.holds("Begins anew with one table of empty cells", "all that was there is gone", due -> {
            NestedSums x = Build.chain(5);
            x.span(0, 1, 1, 2, 2);
            x.rule(0, 0, 2, 1, 3);
            x.put(0, 2, 0, 2, 9);
            x.begin(3, 3);
            due.is("tables", x.count(0), 1);
            due.is("empty cells", x.count(2), 9);
            due.is("edges with a rule", x.count(10), 0);
            due.is("squares that are no cells", x.count(11), 0);
            due.is("its width", x.table(0, 3), 0);
        });
        s.holds("Begins anew with one table of empty cells", "the next table within is the table 1", due -> {
            NestedSums x = Build.chain(5);
            x.begin(1, 1);
            due.is("nest", x.nest(0, 0, 0, 2, 2), 1);
            due.is("its cells are empty", x.count(2), 4);
        });
        s.holds("(the setting stays)", "and so does the buffer", due -> {
            NestedSums x = new NestedSums();
            x.set(60);
            Due.type(x, "0a");
            x.begin(2, 2);
            due.is("the buffer", x.clearBuffer(), 2);
            due.is("the setting", x.set(1), 60);
        });
        s.holds("Undoable.", "one state more, and back", due -> {
            NestedSums x = Build.places();
            x.put(1, 1, 4, 1, 5);
            due.undoes(x, "begin", () -> x.begin(5, 1));
        });
        s.holds("`rows`: 1 to 5", "the least, the greatest, and those beyond", due -> {
            NestedSums x = new NestedSums();
            due.is("one", x.begin(1, 2), 2);
            due.is("told", x.table(0, 0), 1);
            due.is("five", x.begin(5, 2), 10);
            due.is("told", x.table(0, 0), 5);
            due.refusesEach(x, Build.ARGUMENT, "rows", rows -> x.begin(rows, 2), 0, 6, -1);
        });
        s.holds("`columns`: 1 to 5", "the least, the greatest, and those beyond", due -> {
            NestedSums x = new NestedSums();
            due.is("one", x.begin(2, 1), 2);
            due.is("told", x.table(0, 1), 1);
            due.is("five", x.begin(2, 5), 10);
            due.is("told", x.table(0, 1), 5);
            due.refusesEach(x, Build.ARGUMENT, "columns", columns -> x.begin(2, columns), 0, 6, -1);
        });
        s.holds("Returns how many squares it has.", "the least, the greatest, and rows times columns", due -> {
            NestedSums x = new NestedSums();
            due.is("the least", x.begin(1, 1), 1);
            due.is("the greatest", x.begin(5, 5), 25);
            due.is("four and three", x.begin(4, 3), 12);
            due.is("told by count", x.count(1), 12);
        });
        s.holds("Throws `IllegalArgumentException` if an argument is out of range", "one of them, or both", due -> {
            NestedSums x = new NestedSums();
            due.refuses(x, Build.ARGUMENT, "both", () -> x.begin(0, 6));
            due.refuses(x, Build.ARGUMENT, "rows", () -> x.begin(6, 5));
            due.refuses(x, Build.ARGUMENT, "columns", () -> x.begin(5, 6));
            due.refuses(x, Build.ARGUMENT, "their product is in range", () -> x.begin(-2, -2));
        });
    }

    private static void nest(Sentences s) {
        s.promise(3);
        s.holds("Puts a new table of empty cells into a cell.", "where another table with its number was", due -> {
            NestedSums x = new NestedSums();
            x.nest(0, 0, 0, 3, 3);
            x.put(1, 2, 2, 1, 99);
            x.rule(1, 0, 0, 1, 3);
            x.span(1, 1, 0, 2, 2);
            x.put(0, 0, 0, 0, 0);
            due.is("nest", x.nest(0, 2, 2, 5, 4), 1);
            due.is("empty cells", x.count(2), 8 + 20);
            due.is("edges with a rule", x.count(10), 0);
            due.is("squares that are no cells", x.count(11), 0);
            due.is("the cell's kind", x.cell(0, 2, 2, 0), 3);
            due.is("the cell's table", x.cell(0, 2, 2, 7), 1);
            due.is("where it was", x.cell(0, 0, 0, 0), 0);
        });
        s.holds("Puts a new table of empty cells into a cell.", "the cell keeps its squares and rules", due -> {
            NestedSums x = new NestedSums();
            x.span(0, 1, 1, 2, 2);
            x.rule(0, 1, 1, 0, 2);
            x.nest(0, 1, 1, 5, 5);
            due.is("its rows", x.cell(0, 1, 1, 3), 2);
            due.is("its columns", x.cell(0, 1, 1, 4), 2);
            due.is("its rule", x.cell(0, 1, 1, 8), 2);
        });
        s.holds("Undoable.", "one state more, and back", due -> {
            NestedSums x = Build.places();
            due.undoes(x, "nest", () -> x.nest(1, 1, 4, 5, 5));
        });
        s.holds("`rows`: 1 to 5", "the least, the greatest, and those beyond", due -> {
            NestedSums x = new NestedSums();
            x.nest(0, 0, 0, 1, 2);
            due.is("one", x.table(1, 0), 1);
            x.nest(0, 2, 2, 5, 2);
            due.is("five", x.table(2, 0), 5);
            due.refusesEach(x, Build.ARGUMENT, "rows", rows -> x.nest(0, 1, 1, rows, 2), 0, 6, -1);
        });
        s.holds("`columns`: 1 to 5", "the least, the greatest, and those beyond", due -> {
            NestedSums x = new NestedSums();
            x.nest(0, 0, 0, 2, 1);
            due.is("one", x.table(1, 1), 1);
            x.nest(0, 2, 2, 2, 5);
            due.is("five", x.table(2, 1), 5);
            due.refusesEach(x, Build.ARGUMENT, "columns", columns -> x.nest(0, 1, 1, 2, columns), 0, 6, -1);
        });
        s.holds("Returns the number of the new table.", "1 to 4, by the order of the calls", due -> {
            NestedSums x = new NestedSums();
            int[][] cells = {{0, 2, 2}, {0, 0, 0}, {1, 0, 0}, {2, 0, 0}};
            for (int k = 0; k < 4; k++) {
                due.is("nest", x.nest(cells[k][0], cells[k][1], cells[k][2], 1, 1), k + 1);
                due.is("its cell tells it", x.cell(cells[k][0], cells[k][1], cells[k][2], 7), k + 1);
            }
        });
        s.holds("Returns the number of the new table.", "again that of the last one, when it went", due -> {
            NestedSums x = Build.chain(3);
            x.put(1, 0, 0, 1, 5);
            due.is("after put", x.nest(0, 1, 1, 1, 1), 2);
            x.undo();
            due.is("after undo", x.nest(0, 1, 1, 1, 1), 2);
        });
        s.holds("Returns the number of the new table.", "the greatest number is 4", due -> {
            NestedSums x = Build.chain(4);
            due.is("the last one", x.nest(0, 2, 2, 5, 5), 4);
        });
    }

    private static void nestRefused(Sentences s) {
        s.holds(NO_SQUARE, "just beyond, and far off",
                due -> Build.outside(due, (x, table, row, column) -> x.nest(table, row, column, 1, 1)));
        s.holds("Throws `IllegalArgumentException` if rows or columns is out of range", "one of them, or both", due -> {
            NestedSums x = new NestedSums();
            due.refuses(x, Build.ARGUMENT, "rows", () -> x.nest(0, 0, 0, 6, 5));
            due.refuses(x, Build.ARGUMENT, "columns", () -> x.nest(0, 0, 0, 5, 6));
            due.refuses(x, Build.ARGUMENT, "both", () -> x.nest(0, 0, 0, 0, 0));
        });
        s.holds(NO_CELL, "each square beside the first one of a cell",
                due -> Build.noCell(due, (x, table, row, column) -> x.nest(table, row, column, 1, 1)));
        for (int kind : new int[] {1, 2, 4, 5, 6}) {
            s.holds("or the cell is not empty", "the kind " + kind, due -> {
                NestedSums x = new NestedSums();
                x.put(0, 1, 1, kind, 1);
                due.refuses(x, Build.STATE, "nest", () -> x.nest(0, 1, 1, 1, 1));
                x.put(0, 1, 1, 0, 0);
                due.is("when it is empty again", x.nest(0, 1, 1, 1, 1), 1);
            });
        }
        s.holds("or the cell is not empty", "a number 0", due -> {
            NestedSums x = new NestedSums();
            x.put(0, 1, 1, 1, 0);
            due.refuses(x, Build.STATE, "nest", () -> x.nest(0, 1, 1, 1, 1));
        });
        s.holds("or the cell is not empty", "a table, also an empty one that is the last", due -> {
            NestedSums x = new NestedSums();
            x.nest(0, 1, 1, 1, 1);
            due.refuses(x, Build.STATE, "nest", () -> x.nest(0, 1, 1, 1, 1));
        });
        s.holds("or there are 5 tables", "not with four, and again when one is gone", due -> {
            NestedSums x = Build.chain(4);
            due.is("with four", x.nest(3, 0, 0, 1, 1), 4);
            due.refuses(x, Build.STATE, "with five", () -> x.nest(0, 2, 2, 1, 1));
            due.refuses(x, Build.STATE, "with five, in the last one", () -> x.nest(4, 0, 0, 1, 1));
            x.put(3, 0, 0, 0, 0);
            due.is("with four again", x.nest(0, 2, 2, 1, 1), 4);
        });
    }

    private static void put(Sentences s) {
        s.promise(4);
        s.holds("Puts something into a cell, in place of what is in it.", "each kind in place of each", due -> {
            int[] kinds = {0, 1, 2, 4, 5, 6};
            for (int before : kinds) {
                for (int kind : kinds) {
                    NestedSums x = new NestedSums();
                    x.put(0, 2, 2, before, 12);
                    x.put(0, 2, 2, kind, 7);
                    String pair = before + ", then " + kind;
                    due.is(pair, x.cell(0, 2, 2, 0), kind);
                    due.is(pair + ", its value", x.cell(0, 2, 2, 1), kind == 1 ? 7 : 0);
                    due.is(pair + ", its width", x.cell(0, 2, 2, 5), kind == 2 ? 7 : kind == 0 ? 0 : 1);
                }
            }
        });
        s.holds("Puts something into a cell, in place of what is in it.", "its squares and rules stay", due -> {
            NestedSums x = new NestedSums();
            x.span(0, 0, 0, 2, 3);
            x.rule(0, 0, 0, 2, 3);
            x.put(0, 0, 0, 1, 5);
            x.put(0, 0, 0, 0, 0);
            due.is("its rows", x.cell(0, 0, 0, 3), 2);
            due.is("its columns", x.cell(0, 0, 0, 4), 3);
            due.is("its rule", x.cell(0, 0, 0, 10), 3);
        });
        s.holds("Undoable.", "one state more, and back", due -> {
            NestedSums x = Build.places();
            x.put(0, 0, 0, 6, 0);
            due.undoes(x, "put", () -> x.put(1, 1, 4, 1, 5));
            due.undoes(x, "put in place of a table", () -> x.put(0, 1, 1, 0, 0));
        });
        s.holds("`kind`: 0, 1, 2, 4, 5 or 6", "each of them, 3, and those beyond", due -> {
            NestedSums x = new NestedSums();
            for (int kind : new int[] {6, 5, 4, 2, 1, 0}) {
                due.accepts("the kind " + kind, () -> x.put(0, 0, 0, kind, 1));
                due.is("told", x.cell(0, 0, 0, 0), kind);
            }
            due.refusesEach(x, Build.ARGUMENT, "the kind", kind -> x.put(0, 0, 0, kind, 1), 3, 7, -1);
        });
        s.holds("for the kind 1 the number", "the least, the greatest, and those beyond", due -> {
            NestedSums x = new NestedSums();
            x.put(0, 0, 0, 1, -999);
            due.is("the least", x.cell(0, 0, 0, 1), -999);
            x.put(0, 0, 0, 1, 999);
            due.is("the greatest", x.cell(0, 0, 0, 1), 999);
            due.refusesEach(x, Build.ARGUMENT, "the number", number -> x.put(0, 0, 0, 1, number), 1000, -1000);
        });
        s.holds("for the kind 2 the width", "the least, the greatest, and those beyond", due -> {
            NestedSums x = new NestedSums();
            x.put(0, 0, 0, 2, 1);
            due.is("the least", x.cell(0, 0, 0, 5), 1);
            x.put(0, 0, 0, 2, 12);
            due.is("the greatest", x.cell(0, 0, 0, 5), 12);
            due.refusesEach(x, Build.ARGUMENT, "the width", width -> x.put(0, 0, 0, 2, width), 0, 13, -1);
        });
        for (int kind : new int[] {0, 4, 5, 6}) {
            s.holds("it does not matter for others", "the kind " + kind, due -> {
                NestedSums x = new NestedSums();
                for (int number : new int[] {1000, -1000, 0, 13, Build.LEAST, Build.MOST}) {
                    due.accepts("with " + number, () -> x.put(0, 0, 0, kind, number));
                    due.is("its value", x.cell(0, 0, 0, 1), 0);
                    due.is("its number", x.cell(0, 0, 0, 2), 0);
                    due.is("its table", x.cell(0, 0, 0, 7), -1);
                }
            });
        }
        s.holds("Returns the kind that it had.", "each kind, a table too", due -> {
            NestedSums x = new NestedSums();
            int before = 0;
            for (int kind : new int[] {1, 2, 4, 5, 6, 0}) {
                due.is("before " + kind, x.put(0, 1, 1, kind, 1), before);
                before = kind;
            }
            x.nest(0, 1, 1, 1, 1);
            due.is("a table", x.put(0, 1, 1, 1, 5), 3);
            due.is("the same kind again", x.put(0, 1, 1, 1, 5), 1);
        });
    }

    private static void putRefused(Sentences s) {
        s.holds(NO_SQUARE, "just beyond, and far off",
                due -> Build.outside(due, (x, table, row, column) -> x.put(table, row, column, 1, 1)));
        s.holds("Throws `IllegalArgumentException` if kind or number is out of range", "each of them", due -> {
            NestedSums x = new NestedSums();
            due.refuses(x, Build.ARGUMENT, "the kind, with a number in range", () -> x.put(0, 0, 0, 3, 1));
            due.refuses(x, Build.ARGUMENT, "a number in range for a word alone", () -> x.put(0, 0, 0, 7, 12));
            due.refuses(x, Build.ARGUMENT, "a width in range for a number alone", () -> x.put(0, 0, 0, 2, 999));
            due.refuses(x, Build.ARGUMENT, "a width 0", () -> x.put(0, 0, 0, 2, 0));
            due.accepts("a number 0", () -> x.put(0, 0, 0, 1, 0));
        });
        s.holds(NO_CELL, "each square beside the first one of a cell, each kind", due -> {
            for (int kind : new int[] {0, 1, 2, 4, 5, 6}) {
                Build.noCell(due, (x, table, row, column) -> x.put(table, row, column, kind, 1));
            }
        });
        s.holds("or it has a table that is not the one with the greatest number", "beside, within, and deeper", due -> {
            NestedSums beside = new NestedSums();
            beside.nest(0, 0, 0, 1, 1);
            beside.nest(0, 1, 1, 1, 1);
            due.refuses(beside, Build.STATE, "one beside it", () -> beside.put(0, 0, 0, 1, 5));
            due.is("the greatest", beside.put(0, 1, 1, 1, 5), 3);
            NestedSums within = Build.chain(5);
            for (int table = 0; table <= 2; table++) {
                int t = table;
                due.refuses(within, Build.STATE, "the one in " + t, () -> within.put(t, 0, 0, 0, 0));
            }
            for (int table = 3; table >= 0; table--) {
                due.is("the last one, in " + table, within.put(table, 0, 0, 0, 0), 3);
            }
        });
        s.holds("(that one is gone then)", "with its cells, values and rules", due -> {
            NestedSums x = new NestedSums();
            x.nest(0, 0, 0, 1, 1);
            x.nest(0, 1, 1, 2, 2);
            x.put(2, 0, 0, 1, 5);
            x.rule(2, 0, 0, 0, 1);
            x.put(0, 1, 1, 0, 0);
            due.is("tables", x.count(0), 2);
            due.refuses(x, Build.OUTSIDE, "it", () -> x.table(2, 0));
            due.refuses(x, Build.OUTSIDE, "its cell", () -> x.cell(2, 0, 0, 0));
            due.is("cells", x.count(1), 10);
            due.is("numbers", x.count(3), 0);
            due.is("edges with a rule", x.count(10), 0);
            due.is("the value", x.table(0, 2), 0);
            due.is("the cell's table", x.cell(0, 1, 1, 7), -1);
            due.is("the one that is the greatest now", x.put(0, 0, 0, 0, 0), 3);
        });
    }

    private static void span(Sentences s) {
        s.promise(5);
        s.holds("Lets a cell cover other squares, or fewer.", "more, others, fewer, and the same", due -> {
            NestedSums x = Build.grid(4, 4);
            x.put(0, 1, 1, 1, 7);
            x.rule(0, 1, 1, 2, 3);
            int[][] sizes = {{3, 1}, {1, 3}, {3, 3}, {2, 2}, {2, 2}, {1, 1}};
            for (int[] size : sizes) {
                String told = size[0] + " by " + size[1];
                due.is(told, x.span(0, 1, 1, size[0], size[1]), size[0] * size[1]);
                due.is(told + ", rows", x.cell(0, 1, 1, 3), size[0]);
                due.is(told + ", columns", x.cell(0, 1, 1, 4), size[1]);
                due.is(told + ", squares that are no cells", x.count(11), size[0] * size[1] - 1);
                due.is(told + ", its number", x.cell(0, 1, 1, 1), 7);
                due.is(told + ", its rule", x.cell(0, 1, 1, 10), 3);
            }
        });
        s.holds("Squares that it does not cover any more are empty cells without rules",
                "what was there does not come back", due -> {
            NestedSums x = new NestedSums();
            for (int side = 0; side <= 3; side++) {
                x.rule(0, 1, 1, side, 3);
            }
            x.span(0, 0, 0, 2, 2);
            x.rule(0, 0, 0, 1, 2);
            x.span(0, 0, 0, 1, 2);
            x.span(0, 0, 0, 1, 1);
            for (int[] at : new int[][] {{0, 1}, {1, 0}, {1, 1}}) {
                due.is("its kind", x.cell(0, at[0], at[1], 0), 0);
                due.is("its rows", x.cell(0, at[0], at[1], 3), 1);
                due.is("its columns", x.cell(0, at[0], at[1], 4), 1);
                for (int what = 8; what <= 11; what++) {
                    due.is("its rules", x.cell(0, at[0], at[1], what), 0);
                }
            }
        });
        s.holds("Squares that it does not cover any more are empty cells without rules",
                "those that it covers stay covered", due -> {
            NestedSums x = Build.grid(3, 3);
            x.span(0, 0, 0, 3, 2);
            x.span(0, 0, 0, 2, 3);
            int[] kinds = {0, -1, -1, -1, -1, -1, 0, 0, 0};
            for (int square = 0; square < 9; square++) {
                due.is("square " + square, x.cell(0, square / 3, square % 3, 0), kinds[square]);
            }
        });
        s.holds("cells whose squares are covered are gone, with their rules.", "on all their sides", due -> {
            NestedSums x = new NestedSums();
            for (int side = 0; side <= 3; side++) {
                x.rule(0, 2, 2, side, 3);
            }
            x.span(0, 1, 1, 2, 2);
            due.is("cells", x.count(1), 6);
            due.is("edges with a rule", x.count(10), 0);
            due.refuses(x, Build.STATE, "its rule", () -> x.rule(0, 2, 2, 0, 0));
        });
        s.holds("Undoable.", "one state more, and back", due -> {
            NestedSums x = Build.places();
            x.rule(0, 0, 1, 1, 2);
            due.undoes(x, "more", () -> x.span(0, 0, 0, 1, 3));
            due.undoes(x, "fewer", () -> x.span(0, 2, 0, 1, 1));
        });
        s.holds("`rows`: how many rows it has then, 1 to 5", "the least, the greatest, and those beyond", due -> {
            NestedSums x = Build.grid(5, 5);
            due.is("five", x.span(0, 0, 0, 5, 1), 5);
            due.is("one", x.span(0, 0, 0, 1, 1), 1);
            due.refusesEach(x, Build.ARGUMENT, "rows", rows -> x.span(0, 0, 0, rows, 1), 0, 6, -1);
        });
        s.holds("`columns`: how many columns", "the least, the greatest, and those beyond", due -> {
            NestedSums x = Build.grid(5, 5);
            due.is("five", x.span(0, 0, 0, 1, 5), 5);
            due.is("one", x.span(0, 0, 0, 1, 1), 1);
            due.refusesEach(x, Build.ARGUMENT, "columns", columns -> x.span(0, 0, 0, 1, columns), 0, 6, -1);
        });
        s.holds("Returns how many squares it covers then.", "one, and all of the greatest table", due -> {
            NestedSums x = Build.grid(5, 5);
            due.is("all", x.span(0, 0, 0, 5, 5), 25);
            due.is("some", x.span(0, 0, 0, 3, 4), 12);
            due.is("one", x.span(0, 0, 0, 1, 1), 1);
        });
    }

    private static void spanRefused(Sentences s) {
        s.holds(NO_SQUARE, "just beyond, and far off",
                due -> Build.outside(due, (x, table, row, column) -> x.span(table, row, column, 1, 1)));
        String beyond = "or rows and columns are 1 to 5 and it would not be within the table";
        s.holds(beyond, "up to the last row and column, and one more", due -> {
            NestedSums x = Build.grid(4, 5);
            due.refuses(x, Build.OUTSIDE, "a row more", () -> x.span(0, 1, 2, 4, 3));
            due.refuses(x, Build.OUTSIDE, "a column more", () -> x.span(0, 1, 2, 3, 4));
            due.is("up to the last ones", x.span(0, 1, 2, 3, 3), 9);
            due.refuses(x, Build.OUTSIDE, "from the last square, a row", () -> x.span(0, 3, 0, 2, 1));
            due.refuses(x, Build.OUTSIDE, "from the last square, a column", () -> x.span(0, 0, 4, 1, 2));
            due.refuses(x, Build.OUTSIDE, "five rows of four", () -> x.span(0, 0, 0, 5, 5));
        });
        s.holds(beyond, "in its own table, not in the one around it", due -> {
            NestedSums x = Build.places();
            due.is("five columns", x.span(1, 0, 0, 1, 5), 5);
            due.refuses(x, Build.OUTSIDE, "three rows", () -> x.span(1, 0, 0, 3, 1));
        });
        s.holds("Throws `IllegalArgumentException` if rows or columns is out of range",
                "also if the other would not be within", due -> {
            NestedSums x = new NestedSums();
            due.refuses(x, Build.ARGUMENT, "no rows, five columns", () -> x.span(0, 2, 2, 0, 5));
            due.refuses(x, Build.ARGUMENT, "five rows, no columns", () -> x.span(0, 2, 2, 5, 0));
            due.refuses(x, Build.ARGUMENT, "six rows", () -> x.span(0, 0, 0, 6, 1));
            due.refuses(x, Build.ARGUMENT, "six columns", () -> x.span(0, 0, 0, 1, 6));
            due.refuses(x, Build.ARGUMENT, "rows less than none", () -> x.span(0, 2, 2, -1, -1));
        });
        s.holds(NO_CELL, "each square beside the first one of a cell",
                due -> Build.noCell(due, (x, table, row, column) -> x.span(table, row, column, 1, 1)));
    }

    private static void spanOverOthers(Sentences s) {
        String words = "or another square would be covered that another cell covers which is not empty";
        for (int kind : new int[] {1, 2, 3, 4, 5, 6}) {
            s.holds(words, "the kind " + kind + ", on each square that it would cover", due -> {
                for (int[] at : new int[][] {{0, 1}, {1, 0}, {1, 1}}) {
                    NestedSums x = new NestedSums();
                    if (kind == 3) {
                        x.nest(0, at[0], at[1], 1, 1);
                    } else {
                        x.put(0, at[0], at[1], kind, 1);
                    }
                    due.refuses(x, Build.STATE, "over it", () -> x.span(0, 0, 0, 2, 2));
                    due.accepts("beside it", () -> x.span(0, 0, 0, at[0] == 0 ? 2 : 1, at[0] == 0 ? 1 : 2));
                }
            });
        }
        s.holds(words, "a number 0 is something", due -> {
            NestedSums x = new NestedSums();
            x.put(0, 0, 1, 1, 0);
            due.refuses(x, Build.STATE, "over it", () -> x.span(0, 0, 0, 1, 2));
        });
        s.holds(words, "an empty one with rules may be covered", due -> {
            NestedSums x = new NestedSums();
            x.rule(0, 0, 1, 1, 3);
            due.is("over it", x.span(0, 0, 0, 1, 2), 2);
        });
        s.holds(words, "what is in it itself does not matter", due -> {
            for (int kind : new int[] {0, 1, 2, 4, 5, 6}) {
                NestedSums x = new NestedSums();
                x.put(0, 0, 0, kind, 1);
                due.is("the kind " + kind, x.span(0, 0, 0, 3, 3), 9);
            }
            NestedSums y = Build.chain(2);
            due.is("a table", y.span(0, 0, 0, 3, 3), 9);
        });
        String more = "or has more than one square";
        s.holds(more, "a cell with more rows, or with more columns, by each of its squares", due -> {
            NestedSums rows = new NestedSums();
            rows.span(0, 0, 1, 2, 1);
            due.refuses(rows, Build.STATE, "over its first square", () -> rows.span(0, 0, 0, 1, 2));
            due.refuses(rows, Build.STATE, "over its last square", () -> rows.span(0, 1, 0, 1, 2));
            due.refuses(rows, Build.STATE, "over all of it", () -> rows.span(0, 0, 0, 2, 2));
            NestedSums columns = new NestedSums();
            columns.span(0, 1, 0, 1, 2);
            due.refuses(columns, Build.STATE, "over its first square", () -> columns.span(0, 0, 0, 2, 1));
            due.refuses(columns, Build.STATE, "over its last square", () -> columns.span(0, 0, 1, 2, 1));
            due.refuses(columns, Build.STATE, "over all of it", () -> columns.span(0, 0, 0, 2, 2));
        });
        s.holds(more, "its own squares do not matter", due -> {
            NestedSums x = new NestedSums();
            x.span(0, 0, 0, 2, 2);
            due.is("more of them", x.span(0, 0, 0, 3, 3), 9);
            due.is("others", x.span(0, 0, 0, 1, 3), 3);
            due.is("others again", x.span(0, 0, 0, 3, 1), 3);
        });
        s.holds(more, "when it has one again, it may be covered", due -> {
            NestedSums x = new NestedSums();
            x.span(0, 1, 0, 1, 3);
            x.span(0, 1, 0, 1, 1);
            due.is("over it", x.span(0, 0, 0, 2, 3), 6);
        });
    }

    private static void rule(Sentences s) {
        s.promise(6);
        s.holds("Changes the rule of a cell by a side.", "and of no other cell and side", due -> {
            NestedSums x = new NestedSums();
            x.rule(0, 1, 1, 2, 3);
            int ruled = 0;
            for (int square = 0; square < 9; square++) {
                for (int what = 8; what <= 11; what++) {
                    ruled += x.cell(0, square / 3, square % 3, what);
                }
            }
            due.is("that one", x.cell(0, 1, 1, 10), 3);
            due.is("all together", ruled, 3);
        });
        s.holds("Undoable.", "one state more, and back", due -> {
            NestedSums x = Build.places();
            x.rule(0, 0, 0, 3, 1);
            due.undoes(x, "rule", () -> x.rule(0, 0, 0, 3, 2));
            due.undoes(x, "rule of a cell with a table", () -> x.rule(0, 1, 1, 0, 2));
        });
        s.holds("`side`: 0 to 3", "the least, the greatest, and those beyond", due -> {
            NestedSums x = new NestedSums();
            x.rule(0, 2, 2, 0, 1);
            due.is("the least", x.cell(0, 2, 2, 8), 1);
            x.rule(0, 2, 2, 3, 1);
            due.is("the greatest", x.cell(0, 2, 2, 11), 1);
            due.refusesEach(x, Build.ARGUMENT, "the side", side -> x.rule(0, 2, 2, side, 1), -1, 4);
        });
        s.holds("`rule`: 0 to 3", "the least, the greatest, and those beyond", due -> {
            NestedSums x = new NestedSums();
            x.rule(0, 2, 2, 1, 3);
            due.is("the greatest", x.cell(0, 2, 2, 9), 3);
            x.rule(0, 2, 2, 1, 0);
            due.is("the least", x.cell(0, 2, 2, 9), 0);
            due.refusesEach(x, Build.ARGUMENT, "the rule", rule -> x.rule(0, 2, 2, 1, rule), -1, 4);
        });
        s.holds("Returns the previous one (its own).", "not that of the table in it, nor of the edge", due -> {
            NestedSums x = new NestedSums();
            x.nest(0, 1, 1, 1, 1);
            x.rule(1, 0, 0, 1, 3);
            x.rule(0, 1, 2, 3, 2);
            due.is("the first", x.rule(0, 1, 1, 1, 1), 0);
            due.is("the second", x.rule(0, 1, 1, 1, 0), 1);
            due.is("the third", x.rule(0, 1, 1, 1, 3), 0);
            due.is("the same again", x.rule(0, 1, 1, 1, 3), 3);
        });
        s.holds(NO_SQUARE, "just beyond, and far off",
                due -> Build.outside(due, (x, table, row, column) -> x.rule(table, row, column, 0, 1)));
        s.holds("Throws `IllegalArgumentException` if side or rule is out of range", "one of them, or both", due -> {
            NestedSums x = new NestedSums();
            due.refuses(x, Build.ARGUMENT, "the side", () -> x.rule(0, 0, 0, 4, 3));
            due.refuses(x, Build.ARGUMENT, "the rule", () -> x.rule(0, 0, 0, 3, 4));
            due.refuses(x, Build.ARGUMENT, "both", () -> x.rule(0, 0, 0, -1, -1));
        });
        s.holds(NO_CELL, "each square beside the first one of a cell",
                due -> Build.noCell(due, (x, table, row, column) -> x.rule(table, row, column, 1, 1)));
    }

    private static void set(Sentences s) {
        s.promise(7);
        s.holds("Changes the setting 0.", "it is what pages are as high as", due -> {
            NestedSums x = Build.grid(2, 1);
            Build.fill(x, 0, 1);
            x.set(2);
            due.is("two rows on a page", x.page(1), 0);
            x.set(1);
            due.is("one row on a page", x.page(1), 1);
        });
        s.holds("Undoable.", "one state more, and back", due -> {
            NestedSums x = Build.grid(2, 1);
            Build.fill(x, 0, 1);
            x.set(1);
            due.undoes(x, "set", () -> x.set(2));
            due.is("the setting", x.set(5), 1);
        });
        s.holds("`height`: 1 to 60", "the least, the greatest, and those beyond", due -> {
            NestedSums x = new NestedSums();
            due.accepts("the least", () -> x.set(1));
            due.accepts("the greatest", () -> x.set(60));
            due.refusesEach(x, Build.ARGUMENT, "the height", height -> x.set(height), 0, 61, -1);
        });
        s.holds("Returns the previous one.", "at first, after a call, and the same again", due -> {
            NestedSums x = new NestedSums();
            due.is("at first", x.set(60), 10);
            due.is("the greatest", x.set(1), 60);
            due.is("the least", x.set(1), 1);
            due.is("the same again", x.set(2), 1);
            x.undo();
            x.undo();
            x.undo();
            due.is("after undo", x.set(10), 60);
        });
        s.holds("Throws `IllegalArgumentException` if height is out of range", "the setting stays then", due -> {
            NestedSums x = new NestedSums();
            due.refuses(x, Build.ARGUMENT, "61", () -> x.set(61));
            due.refuses(x, Build.ARGUMENT, "0", () -> x.set(0));
            due.is("the setting", x.set(5), 10);
        });
    }
}
