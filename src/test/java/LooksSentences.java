/** Tests of the sentences of the promises 13 to 18: cells, edges, tables, sizes, pages and counts. */
final class LooksSentences {
    private static final String NO_SQUARE = "Throws `IndexOutOfBoundsException` if there is no such table or square";

    private LooksSentences() {
    }

    static void all(Sentences s) {
        cell(s);
        cellParts(s);
        cellRefused(s);
        edge(s);
        table(s);
        tableLines(s);
        tableRefused(s);
        size(s);
        page(s);
        count(s);
        countEdges(s);
    }

    private static void cell(Sentences s) {
        s.promise(13);
        s.holds("`what`: 0: its kind", "each kind", due -> {
            NestedSums x = new NestedSums();
            for (int kind : new int[] {0, 1, 2, 4, 5, 6}) {
                x.put(0, 2, 2, kind, 1);
                due.is("the kind", x.cell(0, 2, 2, 0), kind);
            }
            x.nest(0, 0, 0, 1, 1);
            due.is("a table", x.cell(0, 0, 0, 0), 3);
        });
        s.holds("1: its value", "of each kind", due -> {
            NestedSums x = kinds();
            int[] values = {0, -40, 0, 999, 0, 0, 0};
            for (int kind = 0; kind <= 6; kind++) {
                due.is("of the kind " + kind, x.cell(0, kind / 3, kind % 3, 1), values[kind]);
            }
        });
        s.holds("2: the number that it shows (of a sum, otherwise its value)", "of each kind", due -> {
            NestedSums x = kinds();
            int[] shown = {0, -40, 0, 999, -40, 999, 959};
            for (int kind = 0; kind <= 6; kind++) {
                due.is("of the kind " + kind, x.cell(0, kind / 3, kind % 3, 2), shown[kind]);
            }
        });
        s.holds("3: its rows", "one, and five", due -> {
            NestedSums x = Build.grid(5, 5);
            due.is("one", x.cell(0, 4, 4, 3), 1);
            x.span(0, 0, 1, 5, 2);
            due.is("five", x.cell(0, 0, 1, 3), 5);
        });
        s.holds("4: its columns", "one, and five", due -> {
            NestedSums x = Build.grid(5, 5);
            due.is("one", x.cell(0, 4, 4, 4), 1);
            x.span(0, 1, 0, 2, 5);
            due.is("five", x.cell(0, 1, 0, 4), 5);
        });
        s.holds("5: the width, 6: the height of what is in it", "of each kind", due -> {
            NestedSums x = kinds();
            int[] widths = {0, 3, 12, 3, 3, 3, 3};
            int[] heights = {0, 1, 1, 1, 1, 1, 1};
            for (int kind = 0; kind <= 6; kind++) {
                due.is("the width of the kind " + kind, x.cell(0, kind / 3, kind % 3, 5), widths[kind]);
                due.is("the height of the kind " + kind, x.cell(0, kind / 3, kind % 3, 6), heights[kind]);
            }
        });
        s.holds("5: the width, 6: the height of what is in it", "not of its columns and rows", due -> {
            NestedSums x = new NestedSums();
            x.span(0, 0, 0, 2, 2);
            x.put(0, 0, 0, 2, 3);
            x.put(0, 2, 0, 2, 9);
            Build.high(x, 1, 2, 4);
            due.is("the width", x.cell(0, 0, 0, 5), 3);
            due.is("the height", x.cell(0, 0, 0, 6), 1);
        });
    }

    /** In its first squares, by rows, a cell of each kind 0 to 6. */
    private static NestedSums kinds() {
        NestedSums x = new NestedSums();
        x.put(0, 0, 1, 1, -40);
        x.put(0, 0, 2, 2, 12);
        x.nest(0, 1, 0, 1, 1);
        x.put(1, 0, 0, 1, 999);
        x.put(0, 1, 1, 4, 0);
        x.put(0, 1, 2, 5, 0);
        x.put(0, 2, 0, 6, 0);
        return x;
    }

    private static void cellParts(Sentences s) {
        s.holds("7: the table that is in it, NONE without one", "of each kind, and of the tables 1 to 4", due -> {
            NestedSums x = kinds();
            for (int kind = 0; kind <= 6; kind++) {
                due.is("of the kind " + kind, x.cell(0, kind / 3, kind % 3, 7), kind == 3 ? 1 : -1);
            }
            NestedSums chain = Build.chain(5);
            for (int table = 0; table <= 3; table++) {
                due.is("in the table " + table, chain.cell(table, 0, 0, 7), table + 1);
            }
            due.is("in the last one", chain.cell(4, 0, 0, 7), -1);
        });
        s.holds("7: the table that is in it, NONE without one", "a number or a width like a table's is none", due -> {
            NestedSums x = new NestedSums();
            x.nest(0, 0, 0, 1, 1);
            x.put(0, 1, 1, 1, 1);
            due.is("a number 1", x.cell(0, 1, 1, 7), -1);
            x.put(0, 1, 1, 2, 1);
            due.is("a width 1", x.cell(0, 1, 1, 7), -1);
        });
        for (int side = 0; side <= 3; side++) {
            int at = side;
            s.holds("8 to 11: its rules by the sides 0 to 3, with those of a table in it",
                    "what is " + (8 + at), due -> {
                NestedSums x = new NestedSums();
                x.rule(0, 1, 1, at, 1);
                for (int other = 0; other <= 3; other++) {
                    due.is("its own, side " + other, x.cell(0, 1, 1, 8 + other), other == at ? 1 : 0);
                }
                x.nest(0, 1, 1, 1, 1);
                x.rule(1, 0, 0, at, 3);
                due.is("with that of the table", x.cell(0, 1, 1, 8 + at), 3);
                x.rule(0, 1 + Build.STEPS[at][0], 1 + Build.STEPS[at][1], (at + 2) % 4, 2);
                x.rule(1, 0, 0, at, 0);
                due.is("without that of the neighbour", x.cell(0, 1, 1, 8 + at), 1);
            });
        }
        s.holds("NONE if the square is no cell.", "each property, each square beside the first one", due -> {
            NestedSums x = Build.places();
            x.span(0, 0, 0, 1, 2);
            x.span(1, 0, 3, 2, 2);
            for (int what = 0; what <= 11; what++) {
                due.is("what " + what, x.cell(0, 2, 1, what), -1);
                due.is("what " + what, x.cell(0, 0, 1, what), -1);
                due.is("what " + what, x.cell(1, 0, 4, what), -1);
                due.is("what " + what, x.cell(1, 1, 3, what), -1);
                due.is("what " + what, x.cell(1, 1, 4, what), -1);
            }
        });
    }

    private static void cellRefused(Sentences s) {
        s.holds(NO_SQUARE, "just beyond, and far off",
                due -> Build.outside(due, (x, table, row, column) -> x.cell(table, row, column, 0)));
        s.holds("Throws `IllegalArgumentException` if what is not 0 to 11", "of a cell, and of no cell", due -> {
            NestedSums x = Build.places();
            due.accepts("the least", () -> x.cell(0, 0, 0, 0));
            due.accepts("the greatest", () -> x.cell(0, 0, 0, 11));
            due.refusesEach(x, Build.ARGUMENT, "of a cell", what -> x.cell(0, 0, 0, what), -1, 12);
            due.refusesEach(x, Build.ARGUMENT, "of no cell", what -> x.cell(0, 2, 1, what), -1, 12);
        });
    }

    private static void edge(Sentences s) {
        s.promise(14);
        s.holds("Returns the rule of an edge.", "the least, and the greatest", due -> {
            NestedSums x = new NestedSums();
            for (int rule = 0; rule <= 3; rule++) {
                x.rule(0, 2, 2, 1, rule);
                due.is("the edge", x.edge(0, 2, 2, 1), rule);
            }
        });
        s.holds("Returns the rule of an edge.", "of the squares that a cell has beside its first one", due -> {
            NestedSums x = Build.grid(4, 4);
            x.span(0, 1, 1, 2, 2);
            x.rule(0, 1, 1, 1, 2);
            x.rule(0, 3, 2, 0, 3);
            due.is("to the right of the last square", x.edge(0, 2, 2, 1), 2);
            due.is("below the last square", x.edge(0, 2, 2, 2), 3);
            due.is("below the one before it", x.edge(0, 2, 1, 2), 0);
            due.is("within the cell", x.edge(0, 2, 2, 0), 0);
        });
        s.holds("`side`: 0 to 3", "the least, the greatest, and those beyond", due -> {
            NestedSums x = Build.places();
            x.rule(0, 0, 0, 0, 1);
            x.rule(0, 0, 0, 3, 2);
            due.is("the least", x.edge(0, 0, 0, 0), 1);
            due.is("the greatest", x.edge(0, 0, 0, 3), 2);
            due.refusesEach(x, Build.ARGUMENT, "the side", side -> x.edge(0, 0, 0, side), -1, 4);
        });
        s.holds(NO_SQUARE, "just beyond, and far off",
                due -> Build.outside(due, (x, table, row, column) -> x.edge(table, row, column, 0)));
        s.holds("Throws `IllegalArgumentException` if side is out of range", "of a cell, and of no cell", due -> {
            NestedSums x = Build.places();
            due.refusesEach(x, Build.ARGUMENT, "of a cell", side -> x.edge(1, 1, 4, side), -1, 4, 8, 11);
            due.refusesEach(x, Build.ARGUMENT, "of no cell", side -> x.edge(0, 2, 1, side), -1, 4);
        });
    }

    private static void table(Sentences s) {
        s.promise(15);
        s.holds("`what`: 0: its rows", "one, and five", due -> {
            NestedSums x = Build.grid(1, 5);
            x.nest(0, 0, 0, 5, 1);
            due.is("one", x.table(0, 0), 1);
            due.is("five", x.table(1, 0), 5);
        });
        s.holds("1: its columns", "one, and five", due -> {
            NestedSums x = Build.grid(1, 5);
            x.nest(0, 0, 0, 5, 1);
            due.is("five", x.table(0, 1), 5);
            due.is("one", x.table(1, 1), 1);
        });
        s.holds("2: its value", "of an empty one, and with one within it", due -> {
            NestedSums x = Build.chain(2);
            due.is("empty", x.table(0, 2), 0);
            x.put(1, 0, 0, 1, -999);
            x.put(0, 2, 2, 1, 9);
            due.is("the outer one", x.table(0, 2), -990);
            due.is("the inner one", x.table(1, 2), -999);
        });
        s.holds("3: its width", "of an empty one, of columns, and with lines", due -> {
            NestedSums x = Build.grid(5, 2);
            due.is("empty", x.table(0, 3), 0);
            x.put(0, 0, 0, 2, 3);
            x.put(0, 4, 1, 2, 4);
            due.is("columns", x.table(0, 3), 7);
            x.rule(0, 2, 0, 1, 1);
            due.is("with a line", x.table(0, 3), 8);
        });
        s.holds("4: its height", "of an empty one, of rows, and with lines", due -> {
            NestedSums x = Build.grid(2, 5);
            due.is("empty", x.table(0, 4), 0);
            x.put(0, 0, 0, 2, 3);
            x.put(0, 1, 4, 2, 4);
            due.is("rows", x.table(0, 4), 2);
            x.rule(0, 0, 2, 2, 1);
            due.is("with a line", x.table(0, 4), 3);
        });
        s.holds("7: the table in which it is, NONE for the table 0",
                "each of five, in another and in the same", due -> {
            NestedSums chain = Build.chain(5);
            for (int table = 0; table <= 4; table++) {
                due.is("table " + table, chain.table(table, 7), table - 1);
            }
            NestedSums x = new NestedSums();
            for (int table = 1; table <= 4; table++) {
                x.nest(0, table / 3, table % 3, 1, 1);
                due.is("table " + table + " in the table 0", x.table(table, 7), 0);
            }
        });
    }

    private static void tableLines(Sentences s) {
        s.holds("5: lines between columns, or at the border, that are drawn", "none, and all", due -> {
            for (int columns = 1; columns <= 5; columns++) {
                NestedSums x = Build.grid(2, columns);
                due.is("none", x.table(0, 5), 0);
                for (int column = 0; column < columns; column++) {
                    x.rule(0, column % 2, column, 3, 1);
                    due.is("of " + columns, x.table(0, 5), column + 1);
                }
                x.rule(0, 0, columns - 1, 1, 1);
                due.is("all of " + columns, x.table(0, 5), columns + 1);
                due.is("none between rows", x.table(0, 6), 0);
            }
        });
        s.holds("6: lines between rows, or at the border, that are drawn", "none, and all", due -> {
            for (int rows = 1; rows <= 5; rows++) {
                NestedSums x = Build.grid(rows, 2);
                due.is("none", x.table(0, 6), 0);
                for (int row = 0; row < rows; row++) {
                    x.rule(0, row, row % 2, 0, 1);
                    due.is("of " + rows, x.table(0, 6), row + 1);
                }
                x.rule(0, rows - 1, 0, 2, 1);
                due.is("all of " + rows, x.table(0, 6), rows + 1);
                due.is("none between columns", x.table(0, 5), 0);
            }
        });
        s.holds("5: lines between columns, or at the border, that are drawn", "of the last table", due -> {
            NestedSums x = Build.chain(4);
            x.nest(3, 0, 0, 5, 5);
            x.rule(4, 4, 4, 1, 3);
            x.rule(4, 4, 4, 2, 3);
            for (int table = 0; table <= 4; table++) {
                due.is("table " + table, x.table(table, 5), 1);
                due.is("table " + table + ", between rows", x.table(table, 6), 1);
            }
        });
    }

    private static void tableRefused(Sentences s) {
        s.holds("Throws `IndexOutOfBoundsException` if there is no such table", "just beyond, and far off", due -> {
            NestedSums x = Build.chain(2);
            due.is("the last one", x.table(1, 0), 1);
            due.refusesEach(x, Build.OUTSIDE, "the table", table -> x.table(table, 0), -1, 2, 4, 5);
            NestedSums five = Build.chain(5);
            due.is("the last of five", five.table(4, 0), 1);
            due.refusesEach(five, Build.OUTSIDE, "the table", table -> five.table(table, 0), -1, 5);
        });
        s.holds("Throws `IllegalArgumentException` if what is not 0 to 7",
                "the least, the greatest, and those beyond", due -> {
            NestedSums x = new NestedSums();
            due.accepts("the least", () -> x.table(0, 0));
            due.accepts("the greatest", () -> x.table(0, 7));
            due.refusesEach(x, Build.ARGUMENT, "what", what -> x.table(0, what), -1, 8);
        });
    }

    private static void size(Sentences s) {
        s.promise(16);
        s.holds("Returns the width of a column, or the height of a row.", "the first, and the last", due -> {
            NestedSums x = Build.grid(2, 5);
            x.put(0, 0, 0, 2, 12);
            x.put(0, 0, 4, 2, 7);
            Build.high(x, 1, 2, 3);
            due.is("the first column", x.size(0, false, 0), 12);
            due.is("the last column", x.size(0, false, 4), 7);
            due.is("the first row", x.size(0, true, 0), 1);
            due.is("the last row", x.size(0, true, 1), 3);
        });
        s.holds("Returns the width of a column, or the height of a row.", "of the last table", due -> {
            NestedSums x = Build.chain(4);
            x.nest(3, 0, 0, 5, 5);
            x.put(4, 4, 4, 2, 12);
            due.is("its last column", x.size(4, false, 4), 12);
            due.is("its last row", x.size(4, true, 4), 1);
            due.is("the column before", x.size(4, false, 3), 0);
            due.is("the first of the table 0", x.size(0, false, 0), 12);
        });
        s.holds("Returns the width, or the height.", "without the lines", due -> {
            NestedSums x = Build.grid(1, 1);
            x.put(0, 0, 0, 2, 5);
            for (int side = 0; side <= 3; side++) {
                x.rule(0, 0, 0, side, 3);
            }
            due.is("the width", x.size(0, false, 0), 5);
            due.is("the height", x.size(0, true, 0), 1);
        });
        s.holds("Returns the width, or the height.", "of nothing", due -> {
            NestedSums x = new NestedSums();
            due.is("the width", x.size(0, false, 2), 0);
            due.is("the height", x.size(0, true, 2), 0);
        });
        String words = "Throws `IndexOutOfBoundsException` if there is no such table, column or row";
        s.holds(words, "tables just beyond, and far off", due -> {
            NestedSums x = Build.places();
            due.refusesEach(x, Build.OUTSIDE, "columns of the table", table -> x.size(table, false, 0), -1, 2);
            due.refusesEach(x, Build.OUTSIDE, "rows of the table", table -> x.size(table, true, 0), -1, 2);
        });
        s.holds(words, "columns just beyond, by its own table", due -> {
            NestedSums x = Build.places();
            due.accepts("the last of three", () -> x.size(0, false, 2));
            due.accepts("the last of five", () -> x.size(1, false, 4));
            due.refusesEach(x, Build.OUTSIDE, "the column", column -> x.size(0, false, column), -1, 3);
            due.refusesEach(x, Build.OUTSIDE, "the column", column -> x.size(1, false, column), -1, 5);
        });
        s.holds(words, "rows just beyond, by its own table", due -> {
            NestedSums x = Build.places();
            due.accepts("the last of three", () -> x.size(0, true, 2));
            due.accepts("the last of two", () -> x.size(1, true, 1));
            due.refusesEach(x, Build.OUTSIDE, "the row", row -> x.size(0, true, row), -1, 3);
            due.refusesEach(x, Build.OUTSIDE, "the row", row -> x.size(1, true, row), -1, 2);
        });
    }

    private static void page(Sentences s) {
        s.promise(17);
        s.holds("Returns the page of a row of the table 0.", "by the setting that holds", due -> {
            NestedSums x = Build.grid(5, 1);
            Build.fill(x, 0, 1);
            due.is("at most 10", x.page(4), 0);
            x.set(2);
            due.is("at most 2", x.page(4), 2);
            x.undo();
            due.is("undone", x.page(4), 0);
        });
        s.holds("Returns the page of a row of the table 0.",
                "each row of a block is on the page of all of them", due -> {
            NestedSums x = Build.grid(4, 2);
            Build.numbers(x, 0, new int[][] {{1}, {1}, {1}, {1}});
            x.span(0, 1, 1, 2, 1);
            x.set(2);
            int[] pages = {0, 1, 1, 2};
            for (int row = 0; row < 4; row++) {
                due.is("row " + row, x.page(row), pages[row]);
            }
        });
        s.holds("Returns its page, from 0.", "the first row, and each row on a page of its own", due -> {
            NestedSums x = Build.grid(5, 1);
            Build.fill(x, 0, 1);
            x.set(1);
            for (int row = 0; row < 5; row++) {
                due.is("row " + row, x.page(row), row);
            }
        });
        s.holds("Throws `IndexOutOfBoundsException` if there is no such row", "just beyond, and far off", due -> {
            for (int rows : new int[] {1, 3, 5}) {
                NestedSums x = Build.grid(rows, 5);
                due.accepts("the last", () -> x.page(rows - 1));
                due.refusesEach(x, Build.OUTSIDE, "of " + rows + " rows, the row", x::page, -1, rows, 5);
            }
        });
        s.holds("Throws `IndexOutOfBoundsException` if there is no such row",
                "a table within that has more rows does not matter", due -> {
            NestedSums x = Build.grid(2, 2);
            x.nest(0, 1, 1, 5, 1);
            due.refuses(x, Build.OUTSIDE, "the row 2", () -> x.page(2));
        });
    }

    private static void count(Sentences s) {
        s.promise(18);
        s.holds("`what`: 0: tables", "one, and five", due -> {
            for (int tables = 1; tables <= 5; tables++) {
                due.is("of " + tables, Build.chain(tables).count(0), tables);
            }
        });
        s.holds("1: cells of all tables", "the least, the greatest, and without covered squares", due -> {
            NestedSums x = Build.grid(1, 1);
            due.is("one", x.count(1), 1);
            x.begin(5, 5);
            for (int table = 1; table <= 4; table++) {
                x.nest(table - 1, 4, 4, 5, 5);
            }
            due.is("of five tables", x.count(1), 125);
            x.span(4, 0, 0, 4, 5);
            due.is("with a large one in the last", x.count(1), 106);
        });
        for (int kind = 0; kind <= 6; kind++) {
            int of = kind;
            s.holds("2 to 8: cells of the kinds 0 to 6", "the kind " + of + ", in two tables", due -> {
                NestedSums x = new NestedSums();
                x.nest(0, 0, 0, 2, 2);
                for (int table = 0; table <= 1; table++) {
                    if (of == 3) {
                        x.nest(table, 1, 1, 1, 1);
                    } else {
                        x.put(table, 1, 1, of, 1);
                    }
                }
                int[] counts = {of == 0 || of == 3 ? 12 : 10, 0, 0, 1, 0, 0, 0};
                counts[of] += of == 0 ? 0 : 2;
                for (int what = 2; what <= 8; what++) {
                    due.is("count(" + what + ")", x.count(what), counts[what - 2]);
                }
            });
        }
        s.holds("2 to 8: cells of the kinds 0 to 6", "squares that are no cells are of none", due -> {
            NestedSums x = Build.grid(1, 1);
            x.begin(5, 5);
            x.span(0, 0, 0, 5, 5);
            due.is("empty ones", x.count(2), 1);
            x.put(0, 0, 0, 1, 5);
            due.is("empty ones then", x.count(2), 0);
            due.is("numbers", x.count(3), 1);
        });
        s.holds("9: pages", "one, and five", due -> {
            NestedSums x = Build.grid(5, 1);
            due.is("without heights", x.count(9), 1);
            Build.fill(x, 0, 1);
            int[] pages = {5, 3, 2, 2, 1};
            for (int height = 1; height <= 5; height++) {
                x.set(height);
                due.is("with the setting " + height, x.count(9), pages[height - 1]);
            }
        });
        s.holds("11: squares that are no cells", "none, and all but one of each table", due -> {
            NestedSums x = Build.grid(5, 5);
            due.is("none", x.count(11), 0);
            x.nest(0, 0, 0, 2, 3);
            x.span(0, 0, 0, 5, 5);
            due.is("of the table 0", x.count(11), 24);
            x.span(1, 0, 0, 2, 3);
            due.is("of both", x.count(11), 29);
        });
        s.holds("12: saved states", "none, six, and not seven", due -> {
            NestedSums x = new NestedSums();
            for (int calls = 0; calls <= 8; calls++) {
                due.is("after " + calls, x.count(12), Math.min(calls, 6));
                x.set(10);
            }
            x.undo();
            due.is("after undo", x.count(12), 5);
        });
        s.holds("Throws `IllegalArgumentException` if what is not 0 to 12",
                "the least, the greatest, and those beyond", due -> {
            NestedSums x = new NestedSums();
            due.accepts("the least", () -> x.count(0));
            due.accepts("the greatest", () -> x.count(12));
            due.refusesEach(x, Build.ARGUMENT, "what", x::count, -1, 13);
        });
    }

    private static void countEdges(Sentences s) {
        String words = "10: edges of all tables with a rule above 0";
        s.holds(words, "each side of each square of the greatest table", due -> {
            for (int square = 0; square < 25; square++) {
                for (int side = 0; side <= 3; side++) {
                    NestedSums x = Build.grid(5, 5);
                    x.rule(0, square / 5, square % 5, side, 1);
                    due.is("square " + square + ", side " + side, x.count(10), 1);
                }
            }
        });
        s.holds(words, "none, rules 1 to 3, and none again", due -> {
            NestedSums x = new NestedSums();
            due.is("none", x.count(10), 0);
            for (int rule = 3; rule >= 0; rule--) {
                x.rule(0, 1, 1, 0, rule);
                due.is("with the rule " + rule, x.count(10), rule > 0 ? 1 : 0);
            }
        });
        s.holds(words, "an edge of a table within, and the one around it", due -> {
            NestedSums x = Build.chain(5);
            x.rule(4, 0, 0, 1, 1);
            due.is("of all five", x.count(10), 5);
        });
        s.holds(words, "each square of a long side, and none within a cell", due -> {
            NestedSums x = Build.grid(3, 4);
            x.span(0, 0, 0, 2, 3);
            for (int side = 0; side <= 3; side++) {
                x.rule(0, 0, 0, side, 2);
            }
            due.is("around the cell", x.count(10), 10);
        });
        s.holds("(an edge between two squares once)", "with a rule from both sides", due -> {
            NestedSums x = new NestedSums();
            x.rule(0, 1, 1, 1, 1);
            x.rule(0, 1, 2, 3, 2);
            due.is("across", x.count(10), 1);
            x.rule(0, 1, 1, 2, 1);
            x.rule(0, 2, 1, 0, 2);
            due.is("and down", x.count(10), 2);
        });
        s.holds("(an edge between two squares once)", "all edges of a table", due -> {
            NestedSums x = Build.grid(2, 3);
            for (int square = 0; square < 6; square++) {
                for (int side = 0; side <= 3; side++) {
                    x.rule(0, square / 3, square % 3, side, 1);
                }
            }
            due.is("of two rows and three columns", x.count(10), 17);
        });
    }
}
