/** Tests of the terms that hold for all promises: tables and cells, values and sums. */
final class TablesTerms {
    private TablesTerms() {
    }

    static void all(Sentences s) {
        s.promise(0);
        calls(s);
        tables(s);
        cells(s);
        kinds(s);
        values(s);
        columnSums(s);
        nearestColumnSums(s);
        rowSums(s);
        tableSums(s);
    }

    private static void calls(Sentences s) {
        s.holds("An object is used for at most 512 calls", "the call 512 answers as the first ones do", due -> {
            NestedSums x = new NestedSums();
            for (int call = 1; call <= 510; call++) {
                due.is("put, call " + call, x.put(0, 0, 0, 1, call), call == 1 ? 0 : 1);
            }
            due.is("undo, call 511", x.undo(), 5);
            due.is("cell, call 512", x.cell(0, 0, 0, 1), 509);
        });
        s.holds("An object is used for at most 512 calls", "as many texts as that are read", due -> {
            NestedSums x = new NestedSums();
            for (int text = 1; text <= 64; text++) {
                Due.type(x, "0a1=" + text % 10);
                due.is("clearBuffer", text < 64 ? x.clearBuffer() : 5, 5);
            }
            due.is("run", x.run(), 1);
            due.is("the number", x.cell(0, 0, 0, 1), 4);
        });
    }

    private static void tables(Sentences s) {
        s.holds("There are at most 5 tables, numbered from 0", "the tables 0 to 4 are there, and no more", due -> {
            NestedSums x = Build.chain(5);
            due.is("tables", x.count(0), 5);
            due.is("the table 4 has a row", x.table(4, 0), 1);
            due.refuses(x, Build.OUTSIDE, "the table 5", () -> x.table(5, 0));
            due.refuses(x, Build.STATE, "a sixth table", () -> x.nest(4, 0, 0, 1, 1));
            due.refuses(x, Build.OUTSIDE, "the table -1", () -> x.table(-1, 0));
        });
        s.holds("table 0 is there at first, with 3 rows and 3 columns.", "and no other", due -> {
            NestedSums x = new NestedSums();
            due.is("rows", x.table(0, 0), 3);
            due.is("columns", x.table(0, 1), 3);
            due.is("its last square", x.cell(0, 2, 2, 0), 0);
            due.refuses(x, Build.OUTSIDE, "the table 1", () -> x.table(1, 0));
            due.refuses(x, Build.OUTSIDE, "the row 3", () -> x.cell(0, 3, 2, 0));
            due.refuses(x, Build.OUTSIDE, "the column 3", () -> x.cell(0, 2, 3, 0));
        });
        for (int[] size : new int[][] {{1, 1}, {1, 5}, {5, 1}, {5, 5}}) {
            int rows = size[0];
            int columns = size[1];
            s.holds("A table has 1 to 5 rows and 1 to 5 columns of squares, each numbered from 0.",
                    rows + " rows, " + columns + " columns", due -> {
                NestedSums x = Build.grid(rows, columns);
                x.nest(0, rows - 1, columns - 1, rows, columns);
                for (int table = 0; table <= 1; table++) {
                    int t = table;
                    due.is("rows", x.table(t, 0), rows);
                    due.is("columns", x.table(t, 1), columns);
                    due.accepts("the first square", () -> x.cell(t, 0, 0, 0));
                    due.accepts("the last square", () -> x.cell(t, rows - 1, columns - 1, 0));
                    due.refuses(x, Build.OUTSIDE, "a row more", () -> x.cell(t, rows, 0, 0));
                    due.refuses(x, Build.OUTSIDE, "a column more", () -> x.cell(t, 0, columns, 0));
                    due.refuses(x, Build.OUTSIDE, "the row -1", () -> x.cell(t, -1, 0, 0));
                    due.refuses(x, Build.OUTSIDE, "the column -1", () -> x.cell(t, 0, -1, 0));
                }
            });
        }
    }

    private static void cells(Sentences s) {
        s.holds("A cell covers a rectangle of squares, at first one", "each square of a new table is a cell", due -> {
            NestedSums x = new NestedSums();
            x.nest(0, 2, 2, 2, 5);
            due.is("cells", x.count(1), 9 + 10);
            due.is("squares that are no cells", x.count(11), 0);
            due.is("rows of the last one", x.cell(1, 1, 4, 3), 1);
            due.is("columns of the last one", x.cell(1, 1, 4, 4), 1);
        });
        s.holds("A cell covers a rectangle of squares", "all squares of a table", due -> {
            NestedSums x = Build.grid(5, 5);
            due.is("squares", x.span(0, 0, 0, 5, 5), 25);
            due.is("cells", x.count(1), 1);
            due.is("its rows", x.cell(0, 0, 0, 3), 5);
            due.is("its columns", x.cell(0, 0, 0, 4), 5);
        });
        s.holds("it is told by its square with the least row and column.", "and by no other corner", due -> {
            NestedSums x = Build.grid(4, 4);
            x.span(0, 1, 1, 2, 2);
            x.put(0, 1, 1, 1, 7);
            due.is("the least row and column", x.cell(0, 1, 1, 1), 7);
            due.is("the least row, another column", x.cell(0, 1, 2, 1), -1);
            due.is("the least column, another row", x.cell(0, 2, 1, 1), -1);
            due.is("the last ones", x.cell(0, 2, 2, 1), -1);
        });
        s.holds("A square that a cell covers beside that one is no cell.", "those around the cell are cells", due -> {
            NestedSums x = Build.grid(4, 4);
            x.span(0, 1, 1, 2, 2);
            for (int square = 0; square < 16; square++) {
                int row = square / 4;
                int column = square % 4;
                boolean isCovered = (row == 1 || row == 2) && (column == 1 || column == 2) && row + column > 2;
                due.is("row " + row + ", column " + column, x.cell(0, row, column, 0), isCovered ? -1 : 0);
            }
            due.refuses(x, Build.STATE, "a word in no cell", () -> x.put(0, 2, 2, 2, 1));
        });
        s.holds("A table within a cell has a greater number than the table of that cell.",
                "also after others went", due -> {
            NestedSums x = new NestedSums();
            due.is("the first", x.nest(0, 2, 2, 2, 2), 1);
            due.is("the second", x.nest(0, 0, 0, 2, 2), 2);
            due.is("within the first", x.nest(1, 0, 0, 1, 1), 3);
            x.put(1, 0, 0, 0, 0);
            x.put(0, 0, 0, 0, 0);
            due.is("within the first again", x.nest(1, 1, 1, 2, 2), 2);
            due.is("within that", x.nest(2, 1, 1, 2, 2), 3);
            for (int table = 1; table <= 3; table++) {
                due.is("around " + table, x.table(table, 7), table - 1);
            }
        });
    }

    private static void kinds(Sentences s) {
        s.holds("0 empty", "the first kind of a cell, and that which it gets again", due -> {
            NestedSums x = new NestedSums();
            due.is("at first", x.cell(0, 0, 0, 0), 0);
            x.put(0, 0, 0, 1, 5);
            x.put(0, 0, 0, 0, 0);
            due.is("again", x.cell(0, 0, 0, 0), 0);
            due.refuses(x, Build.ARGUMENT, "the kind -1", () -> x.put(0, 0, 0, -1, 0));
        });
        s.holds("1 a number, -999 to 999", "the least, the greatest, and those beyond", due -> {
            NestedSums x = new NestedSums();
            for (int number : new int[] {-999, -1, 0, 999}) {
                x.put(0, 0, 0, 1, number);
                due.is("the kind", x.cell(0, 0, 0, 0), 1);
                due.is("the number", x.cell(0, 0, 0, 1), number);
            }
            due.refusesEach(x, Build.ARGUMENT, "the number", number -> x.put(0, 0, 0, 1, number), -1000, 1000);
        });
        s.holds("2 a word, with a width of 1 to 12", "the least, the greatest, and those beyond", due -> {
            NestedSums x = new NestedSums();
            for (int width : new int[] {1, 12}) {
                x.put(0, 0, 0, 2, width);
                due.is("the kind", x.cell(0, 0, 0, 0), 2);
                due.is("the width", x.cell(0, 0, 0, 5), width);
            }
            due.refusesEach(x, Build.ARGUMENT, "the width", width -> x.put(0, 0, 0, 2, width), 0, 13, -1);
        });
        s.holds("3 a table", "it comes by nest, not by put", due -> {
            NestedSums x = new NestedSums();
            due.refuses(x, Build.ARGUMENT, "the kind 3", () -> x.put(0, 0, 0, 3, 1));
            x.nest(0, 0, 0, 1, 1);
            due.is("the kind", x.cell(0, 0, 0, 0), 3);
        });
        String[] sums = {"4 a column sum", "5 a row sum", "6 a table sum."};
        for (int k = 0; k < sums.length; k++) {
            int kind = 4 + k;
            s.holds(sums[k], "the kind and what it counts", due -> {
                NestedSums x = new NestedSums();
                Build.numbers(x, 0, new int[][] {{1, 20, 300}, {40, 0, 0}, {500, 0, 0}});
                x.put(0, 1, 1, kind, 0);
                due.is("the kind", x.cell(0, 1, 1, 0), kind);
                due.is("the number", x.cell(0, 1, 1, 2), kind == 4 ? 20 : kind == 5 ? 40 : 861);
            });
        }
        s.holds("6 a table sum.", "there is no kind above it", due -> {
            NestedSums x = new NestedSums();
            due.refusesEach(x, Build.ARGUMENT, "the kind", kind -> x.put(0, 0, 0, kind, 1), 7, 8);
        });
    }

    private static void values(Sentences s) {
        s.holds("The value of a number is itself", "the least, none, and the greatest", due -> {
            NestedSums x = new NestedSums();
            for (int number : new int[] {-999, 0, 999}) {
                x.put(0, 1, 1, 1, number);
                due.is("the value", x.cell(0, 1, 1, 1), number);
                due.is("the table's value", x.table(0, 2), number);
            }
        });
        s.holds("that of a table within a cell is the value of the table", "through all five tables", due -> {
            NestedSums x = Build.chain(5);
            due.is("of an empty one", x.cell(0, 0, 0, 1), 0);
            x.put(4, 0, 0, 1, -999);
            for (int table = 0; table <= 4; table++) {
                due.is("the first cell of " + table, x.cell(table, 0, 0, 1), -999);
                due.is("the table " + table, x.table(table, 2), -999);
            }
            x.put(0, 2, 2, 1, 999);
            due.is("with one outside", x.table(0, 2), 0);
            due.is("which is not inside", x.table(1, 2), -999);
        });
        s.holds("empty cells, words and sums have the value 0.", "each of them", due -> {
            NestedSums x = new NestedSums();
            x.put(0, 0, 0, 1, 5);
            x.put(0, 0, 1, 5, 0);
            x.put(0, 1, 0, 4, 0);
            x.put(0, 1, 1, 6, 0);
            x.put(0, 2, 2, 2, 12);
            int[][] others = {{0, 1}, {1, 0}, {1, 1}, {2, 2}, {0, 2}};
            for (int[] at : others) {
                due.is("row " + at[0] + ", column " + at[1], x.cell(0, at[0], at[1], 1), 0);
            }
            due.is("together", x.table(0, 2), 5);
        });
        s.holds("The value of a table is that of all its cells together.",
                "no cell, the first and last, and all", due -> {
            NestedSums x = Build.grid(5, 5);
            due.is("none", x.table(0, 2), 0);
            x.put(0, 0, 0, 1, 1);
            x.put(0, 4, 4, 1, 20);
            due.is("the first and the last", x.table(0, 2), 21);
            for (int table = 1; table <= 4; table++) {
                x.nest(0, table, 0, 5, 5);
                Build.fill(x, table, -999);
            }
            Build.fill(x, 0, -999);
            due.is("of a full table", x.table(4, 2), 25 * -999);
            due.is("of all", x.table(0, 2), 21 + (100 + 19) * -999);
        });
    }

    private static void columnSums(Sentences s) {
        String words = "that have a square in one of its columns";
        s.holds(words, "a cell beside its first or last column is not counted", due -> {
            NestedSums x = Build.grid(2, 4);
            Build.numbers(x, 0, new int[][] {{1, 20, 300, 4}});
            x.span(0, 1, 1, 1, 2);
            x.put(0, 1, 1, 4, 0);
            due.is("the sum", x.cell(0, 1, 1, 2), 320);
        });
        s.holds(words, "a wide cell that ends in its first column, or begins in its last one", due -> {
            NestedSums x = Build.grid(3, 4);
            Build.wide(x, 0, 0, 1, 2, 10);
            Build.wide(x, 1, 2, 1, 2, 200);
            x.span(0, 2, 1, 1, 2);
            x.put(0, 2, 1, 4, 0);
            due.is("the sum", x.cell(0, 2, 1, 2), 210);
        });
        s.holds(words, "a wide cell that ends ahead of its column, or begins behind it", due -> {
            NestedSums x = Build.grid(2, 5);
            Build.wide(x, 0, 0, 1, 2, 10);
            Build.wide(x, 0, 3, 1, 2, 200);
            x.put(0, 1, 2, 4, 0);
            due.is("the sum", x.cell(0, 1, 2, 2), 0);
        });
        s.holds("A column sum shows the values of all cells together", "tables with theirs, and negative ones", due -> {
            NestedSums x = Build.grid(3, 1);
            x.nest(0, 0, 0, 1, 2);
            Build.fill(x, 1, -7);
            x.put(0, 1, 0, 1, 4);
            x.put(0, 2, 0, 4, 0);
            due.is("the sum", x.cell(0, 2, 0, 2), -10);
        });
        String own = "but for those whose least row is not less than its own";
        s.holds(own, "the row just above counts, the one just below does not", due -> {
            NestedSums x = Build.grid(4, 1);
            Build.numbers(x, 0, new int[][] {{1}, {20}, {0}, {300}});
            x.put(0, 2, 0, 4, 0);
            due.is("the sum", x.cell(0, 2, 0, 2), 21);
        });
        s.holds(own, "a sum in the first row counts nothing", due -> {
            NestedSums x = Build.grid(3, 2);
            Build.numbers(x, 0, new int[][] {{0, 5}, {6, 7}, {8, 9}});
            x.put(0, 0, 0, 4, 0);
            due.is("the sum", x.cell(0, 0, 0, 2), 0);
        });
        s.holds(own, "a sum of more rows goes by its first one", due -> {
            NestedSums x = Build.grid(5, 1);
            Build.numbers(x, 0, new int[][] {{1}, {0}, {0}, {0}, {300}});
            x.span(0, 1, 0, 3, 1);
            x.put(0, 1, 0, 4, 0);
            due.is("the sum", x.cell(0, 1, 0, 2), 1);
        });
        s.holds(own, "a cell of more rows that ends just above it", due -> {
            NestedSums x = Build.grid(5, 1);
            Build.wide(x, 0, 0, 4, 1, 8);
            x.put(0, 4, 0, 4, 0);
            due.is("the sum", x.cell(0, 4, 0, 2), 8);
        });
    }

    private static void nearestColumnSums(Sentences s) {
        String words = "and for those whose least row is less than that of the nearest column sum above";
        s.holds(words, "a cell in the row of the nearest one is counted, one ahead of it is not", due -> {
            NestedSums x = Build.grid(4, 2);
            Build.numbers(x, 0, new int[][] {{1, 2}, {0, 10}, {100, 200}});
            x.put(0, 1, 0, 4, 0);
            x.span(0, 3, 0, 1, 2);
            x.put(0, 3, 0, 4, 0);
            due.is("the nearest one", x.cell(0, 1, 0, 2), 1);
            due.is("the sum", x.cell(0, 3, 0, 2), 310);
        });
        s.holds(words, "a cell that begins ahead of the nearest one and ends behind it is not counted", due -> {
            NestedSums x = Build.grid(4, 2);
            Build.wide(x, 0, 1, 3, 1, 5);
            x.put(0, 1, 0, 4, 0);
            x.put(0, 2, 0, 1, 100);
            x.span(0, 3, 0, 1, 2);
            x.put(0, 3, 0, 4, 0);
            due.is("the sum", x.cell(0, 3, 0, 2), 100);
        });
        s.holds(words, "nothing is between a sum and one just above it", due -> {
            NestedSums x = Build.grid(3, 1);
            x.put(0, 0, 0, 1, 5);
            x.put(0, 1, 0, 4, 0);
            x.put(0, 2, 0, 4, 0);
            due.is("the upper one", x.cell(0, 1, 0, 2), 5);
            due.is("the lower one", x.cell(0, 2, 0, 2), 0);
        });
        String greatest = "the one with the greatest least row less than its own";
        s.holds(greatest, "of three above it, the lowest", due -> {
            NestedSums x = Build.grid(5, 2);
            Build.numbers(x, 0, new int[][] {{0, 1}, {0, 20}, {0, 300}, {0, 400}});
            x.put(0, 0, 0, 4, 0);
            x.put(0, 2, 0, 4, 0);
            x.put(0, 1, 0, 4, 0);
            x.span(0, 4, 0, 1, 2);
            x.put(0, 4, 0, 4, 0);
            due.is("the sum", x.cell(0, 4, 0, 2), 700);
        });
        s.holds(greatest, "by the first row of a high one, not by its last", due -> {
            NestedSums x = Build.grid(5, 2);
            Build.numbers(x, 0, new int[][] {{0, 1}, {0, 0}, {0, 20}, {0, 300}});
            x.span(0, 0, 0, 4, 1);
            x.put(0, 0, 0, 4, 0);
            x.put(0, 1, 1, 4, 0);
            x.span(0, 4, 0, 1, 2);
            x.put(0, 4, 0, 4, 0);
            due.is("the sum", x.cell(0, 4, 0, 2), 320);
        });
        s.holds(greatest, "one below it is not above it", due -> {
            NestedSums x = Build.grid(4, 1);
            Build.numbers(x, 0, new int[][] {{1}, {20}});
            x.put(0, 3, 0, 4, 0);
            x.put(0, 2, 0, 4, 0);
            due.is("the upper sum", x.cell(0, 2, 0, 2), 21);
        });
        s.holds(greatest, "when the nearest one goes, the next above, and back", due -> {
            NestedSums x = Build.grid(5, 1);
            Build.numbers(x, 0, new int[][] {{1}, {0}, {0}, {300}});
            x.put(0, 1, 0, 4, 0);
            x.put(0, 2, 0, 4, 0);
            x.put(0, 4, 0, 4, 0);
            x.put(0, 2, 0, 1, 20);
            due.is("without the nearest one", x.cell(0, 4, 0, 2), 320);
            x.put(0, 1, 0, 0, 0);
            due.is("without both", x.cell(0, 4, 0, 2), 321);
            x.undo();
            x.undo();
            due.is("with both again", x.cell(0, 4, 0, 2), 300);
        });
        String all = "of all column sums that have a square in one of its columns";
        s.holds(all, "one in the column beside it is not meant", due -> {
            NestedSums x = Build.grid(4, 3);
            Build.numbers(x, 0, new int[][] {{0, 5, 0}, {0, 60, 0}, {0, 700, 0}});
            x.put(0, 1, 0, 4, 0);
            x.put(0, 2, 2, 4, 0);
            x.put(0, 3, 1, 4, 0);
            due.is("the sum", x.cell(0, 3, 1, 2), 765);
        });
        s.holds(all, "a wide one that has its column last, or first", due -> {
            NestedSums x = Build.grid(3, 4);
            Build.numbers(x, 0, new int[][] {{1, 2, 3, 4}});
            x.span(0, 1, 0, 1, 2);
            x.put(0, 1, 0, 4, 0);
            x.span(0, 1, 2, 1, 2);
            x.put(0, 1, 2, 4, 0);
            for (int column = 0; column < 4; column++) {
                x.put(0, 2, column, 4, 0);
                due.is("the sum in the column " + column, x.cell(0, 2, column, 2), 0);
            }
            due.is("the wide ones", x.cell(0, 1, 0, 2) * 10 + x.cell(0, 1, 2, 2), 37);
        });
        s.holds(all, "row sums and table sums end none", due -> {
            NestedSums x = Build.grid(4, 1);
            x.put(0, 0, 0, 1, 5);
            x.put(0, 1, 0, 5, 0);
            x.put(0, 2, 0, 6, 0);
            x.put(0, 3, 0, 4, 0);
            due.is("the sum", x.cell(0, 3, 0, 2), 5);
        });
    }

    private static void rowSums(Sentences s) {
        String rows = "that have a square in one of its rows";
        s.holds(rows, "a cell beside its first or last row is not counted", due -> {
            NestedSums x = Build.grid(4, 2);
            Build.numbers(x, 0, new int[][] {{1}, {20}, {300}, {4}});
            x.span(0, 1, 1, 2, 1);
            x.put(0, 1, 1, 5, 0);
            due.is("the sum", x.cell(0, 1, 1, 2), 320);
        });
        s.holds(rows, "a high cell that ends in its first row, or begins in its last one", due -> {
            NestedSums x = Build.grid(4, 3);
            Build.wide(x, 0, 0, 2, 1, 10);
            Build.wide(x, 2, 1, 2, 1, 200);
            x.span(0, 1, 2, 2, 1);
            x.put(0, 1, 2, 5, 0);
            due.is("the sum", x.cell(0, 1, 2, 2), 210);
        });
        s.holds(rows, "a high cell that ends above its row, or begins below it", due -> {
            NestedSums x = Build.grid(5, 2);
            Build.wide(x, 0, 0, 2, 1, 10);
            Build.wide(x, 3, 0, 2, 1, 200);
            x.put(0, 2, 1, 5, 0);
            due.is("the sum", x.cell(0, 2, 1, 2), 0);
        });
        s.holds("to the left", "the column just ahead counts, the one just behind does not", due -> {
            NestedSums x = Build.grid(1, 4);
            Build.numbers(x, 0, new int[][] {{1, 20, 0, 300}});
            x.put(0, 0, 2, 5, 0);
            due.is("the sum", x.cell(0, 0, 2, 2), 21);
        });
        s.holds("to the left", "a sum in the first column counts nothing", due -> {
            NestedSums x = Build.grid(2, 3);
            Build.numbers(x, 0, new int[][] {{0, 5, 6}, {7, 8, 9}});
            x.put(0, 0, 0, 5, 0);
            due.is("the sum", x.cell(0, 0, 0, 2), 0);
        });
        s.holds("to the left", "a sum of more columns goes by its first one", due -> {
            NestedSums x = Build.grid(1, 5);
            Build.numbers(x, 0, new int[][] {{1, 0, 0, 0, 300}});
            x.span(0, 0, 1, 1, 3);
            x.put(0, 0, 1, 5, 0);
            due.is("the sum", x.cell(0, 0, 1, 2), 1);
        });
        s.holds("to the left", "a cell of more columns that ends just ahead of it", due -> {
            NestedSums x = Build.grid(1, 5);
            Build.wide(x, 0, 0, 1, 4, 8);
            x.put(0, 0, 4, 5, 0);
            due.is("the sum", x.cell(0, 0, 4, 2), 8);
        });
        s.holds("up to the nearest row sum", "a cell in the column of the nearest one is counted", due -> {
            NestedSums x = Build.grid(2, 4);
            Build.numbers(x, 0, new int[][] {{1, 0, 100}, {2, 10, 200}});
            x.put(0, 0, 1, 5, 0);
            x.span(0, 0, 3, 2, 1);
            x.put(0, 0, 3, 5, 0);
            due.is("the nearest one", x.cell(0, 0, 1, 2), 1);
            due.is("the sum", x.cell(0, 0, 3, 2), 310);
        });
        s.holds("up to the nearest row sum",
                "a cell that begins ahead of it and ends behind it is not counted", due -> {
            NestedSums x = Build.grid(2, 4);
            Build.wide(x, 1, 0, 1, 3, 5);
            x.put(0, 0, 1, 5, 0);
            x.put(0, 0, 2, 1, 100);
            x.span(0, 0, 3, 2, 1);
            x.put(0, 0, 3, 5, 0);
            due.is("the sum", x.cell(0, 0, 3, 2), 100);
        });
        nearestRowSums(s);
    }

    private static void nearestRowSums(Sentences s) {
        String words = "up to the nearest row sum";
        s.holds(words, "of three to the left, the last", due -> {
            NestedSums x = Build.grid(2, 5);
            Build.numbers(x, 0, new int[][] {{0}, {1, 20, 300, 400}});
            x.put(0, 0, 0, 5, 0);
            x.put(0, 0, 2, 5, 0);
            x.put(0, 0, 1, 5, 0);
            x.span(0, 0, 4, 2, 1);
            x.put(0, 0, 4, 5, 0);
            due.is("the sum", x.cell(0, 0, 4, 2), 700);
        });
        s.holds(words, "when the nearest one goes, the next to the left, and back", due -> {
            NestedSums x = Build.grid(1, 5);
            Build.numbers(x, 0, new int[][] {{1, 0, 0, 300}});
            x.put(0, 0, 1, 5, 0);
            x.put(0, 0, 2, 5, 0);
            x.put(0, 0, 4, 5, 0);
            x.put(0, 0, 2, 1, 20);
            due.is("without the nearest one", x.cell(0, 0, 4, 2), 320);
            x.put(0, 0, 1, 0, 0);
            due.is("without both", x.cell(0, 0, 4, 2), 321);
            x.undo();
            x.undo();
            due.is("with both again", x.cell(0, 0, 4, 2), 300);
        });
        s.holds(words, "by the first column of a wide one, not by its last", due -> {
            NestedSums x = Build.grid(2, 5);
            Build.numbers(x, 0, new int[][] {{0}, {1, 0, 20, 300}});
            x.span(0, 0, 0, 1, 4);
            x.put(0, 0, 0, 5, 0);
            x.put(0, 1, 1, 5, 0);
            x.span(0, 0, 4, 2, 1);
            x.put(0, 0, 4, 5, 0);
            due.is("the sum", x.cell(0, 0, 4, 2), 320);
        });
        s.holds(words, "one in the row above or below is not meant", due -> {
            NestedSums x = Build.grid(3, 4);
            Build.numbers(x, 0, new int[][] {{0}, {5, 60, 700}});
            x.put(0, 0, 1, 5, 0);
            x.put(0, 2, 2, 5, 0);
            x.put(0, 1, 3, 5, 0);
            due.is("the sum", x.cell(0, 1, 3, 2), 765);
        });
        s.holds(words, "a high one that has its row last, or first", due -> {
            NestedSums x = Build.grid(4, 3);
            Build.numbers(x, 0, new int[][] {{1}, {2}, {3}, {4}});
            x.span(0, 0, 1, 2, 1);
            x.put(0, 0, 1, 5, 0);
            x.span(0, 2, 1, 2, 1);
            x.put(0, 2, 1, 5, 0);
            for (int row = 0; row < 4; row++) {
                x.put(0, row, 2, 5, 0);
                due.is("the sum in the row " + row, x.cell(0, row, 2, 2), 0);
            }
            due.is("the high ones", x.cell(0, 0, 1, 2) * 10 + x.cell(0, 2, 1, 2), 37);
        });
        s.holds(words, "column sums and table sums end none", due -> {
            NestedSums x = Build.grid(1, 4);
            x.put(0, 0, 0, 1, 5);
            x.put(0, 0, 1, 4, 0);
            x.put(0, 0, 2, 6, 0);
            x.put(0, 0, 3, 5, 0);
            due.is("the sum", x.cell(0, 0, 3, 2), 5);
        });
        s.holds("A row sum shows likewise", "tables with their values, and negative ones", due -> {
            NestedSums x = Build.grid(1, 3);
            x.nest(0, 0, 0, 2, 1);
            Build.fill(x, 1, -7);
            x.put(0, 0, 1, 1, 4);
            x.put(0, 0, 2, 5, 0);
            due.is("the sum", x.cell(0, 0, 2, 2), -10);
        });
    }

    private static void tableSums(Sentences s) {
        s.holds("A table sum shows the value of its table.",
                "in the first and last cell, of an empty and a filled one", due -> {
            NestedSums x = new NestedSums();
            x.put(0, 0, 0, 6, 0);
            x.put(0, 2, 2, 6, 0);
            due.is("none", x.cell(0, 0, 0, 2), 0);
            x.put(0, 0, 1, 1, -3);
            x.put(0, 2, 1, 1, 50);
            due.is("the first", x.cell(0, 0, 0, 2), 47);
            due.is("the last", x.cell(0, 2, 2, 2), 47);
        });
        s.holds("A table sum shows the value of its table.", "not that of the one around it", due -> {
            NestedSums x = Build.grid(1, 3);
            x.put(0, 0, 0, 1, 900);
            x.put(0, 0, 1, 6, 0);
            x.nest(0, 0, 2, 1, 2);
            x.put(1, 0, 0, 1, 5);
            x.put(1, 0, 1, 6, 0);
            due.is("within", x.cell(1, 0, 1, 2), 5);
            due.is("around it", x.cell(0, 0, 1, 2), 905);
        });
        s.holds("A table sum shows the value of its table.", "other sums do not end it", due -> {
            NestedSums x = Build.grid(1, 4);
            Build.numbers(x, 0, new int[][] {{5, 0, 60}});
            x.put(0, 0, 1, 6, 0);
            x.put(0, 0, 3, 6, 0);
            due.is("the sum", x.cell(0, 0, 3, 2), 65);
        });
        s.holds("So each cell counts once in a sum", "one that shares more columns or rows with it", due -> {
            NestedSums x = Build.grid(3, 3);
            Build.wide(x, 0, 0, 2, 2, 7);
            x.span(0, 2, 0, 1, 2);
            x.put(0, 2, 0, 4, 0);
            x.span(0, 0, 2, 2, 1);
            x.put(0, 0, 2, 5, 0);
            x.put(0, 2, 2, 6, 0);
            due.is("the column sum", x.cell(0, 2, 0, 2), 7);
            due.is("the row sum", x.cell(0, 0, 2, 2), 7);
            due.is("the table sum", x.cell(0, 2, 2, 2), 7);
        });
        s.holds("and sums do not count.", "a column sum, a row sum and a table sum among what is summed", due -> {
            NestedSums x = Build.grid(4, 4);
            x.put(0, 0, 0, 1, 5);
            x.put(0, 0, 1, 5, 0);
            x.put(0, 1, 1, 6, 0);
            x.put(0, 1, 0, 4, 0);
            x.put(0, 2, 1, 4, 0);
            x.put(0, 1, 3, 5, 0);
            x.put(0, 3, 3, 6, 0);
            due.is("below a row sum and a table sum", x.cell(0, 2, 1, 2), 0);
            due.is("behind a column sum and a table sum", x.cell(0, 1, 3, 2), 0);
            due.is("the table sum", x.cell(0, 3, 3, 2), 5);
        });
    }
}
