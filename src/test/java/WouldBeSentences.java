/** Tests of the sentences of the promises 19 to 23: what a number would bring, who counts a cell, and the digest. */
final class WouldBeSentences {
    private static final String NO_SQUARE = "Throws `IndexOutOfBoundsException` if there is no such table or square";

    private WouldBeSentences() {
    }

    static void all(Sentences s) {
        ifPut(s);
        ifPutSums(s);
        ifPutWidth(s);
        ifPutRefused(s);
        countedBy(s);
        countedAround(s);
        heightFor(s);
        filledShare(s);
        digest(s);
        digestParts(s);
    }

    /** A column sum, a row sum and a table sum, a word, numbers, a wide cell, and a table with a sum and a number. */
    private static NestedSums mixed() {
        NestedSums x = Build.grid(4, 3);
        Build.numbers(x, 0, new int[][] {{5, 60}, {7}});
        x.put(0, 0, 2, 5, 0);
        x.put(0, 2, 0, 4, 0);
        x.put(0, 1, 2, 2, 6);
        x.put(0, 3, 2, 6, 0);
        x.span(0, 3, 0, 1, 2);
        x.nest(0, 1, 1, 2, 1);
        x.put(1, 0, 0, 1, 80);
        x.put(1, 1, 0, 4, 0);
        return x;
    }

    private static void ifPut(Sentences s) {
        s.promise(19);
        s.holds("Tells what a number in a cell would bring.", "in each cell what put brings", due -> {
            for (int table = 0; table <= 1; table++) {
                NestedSums x = mixed();
                for (int square = 0; square < x.table(table, 0) * x.table(table, 1); square++) {
                    int row = square / x.table(table, 1);
                    int column = square % x.table(table, 1);
                    for (int number : new int[] {-999, 0, 999}) {
                        int value = x.ifPut(table, row, column, number, 0);
                        int width = x.ifPut(table, row, column, number, 2);
                        if (value != NestedSums.NONE || width != NestedSums.NONE) {
                            NestedSums y = mixed();
                            y.put(table, row, column, 1, number);
                            String told = number + " in table " + table + ", row " + row + ", column " + column;
                            due.is("value, " + told, value, y.table(0, 2));
                            due.is("width, " + told, width, y.table(0, 3));
                        }
                    }
                }
            }
        });
        s.holds("Tells what a number in a cell would bring.", "nothing of it is left behind", due -> {
            NestedSums x = mixed();
            x.ifPut(0, 0, 0, 999, 0);
            due.is("in another cell", x.ifPut(0, 0, 1, 1, 0), 5 + 1 + 7 + 80);
            x.put(0, 0, 0, 1, 6);
            due.is("after a change", x.ifPut(0, 0, 1, 1, 0), 6 + 1 + 7 + 80);
        });
        s.holds("`number`: -999 to 999", "the least, the greatest, and those beyond", due -> {
            NestedSums x = new NestedSums();
            due.is("the least", x.ifPut(0, 0, 0, -999, 0), -999);
            due.is("the greatest", x.ifPut(0, 0, 0, 999, 0), 999);
            due.refusesEach(x, Build.ARGUMENT, "the number", number -> x.ifPut(0, 0, 0, number, 0), 1000, -1000);
        });
        s.holds("0: the value of the table 0 then", "in place of each kind", due -> {
            NestedSums x = mixed();
            due.is("a number", x.ifPut(0, 0, 0, -5, 0), 142);
            due.is("a word", x.ifPut(0, 1, 2, -5, 0), 147);
            due.is("a sum", x.ifPut(0, 3, 2, -5, 0), 147);
            due.is("an empty cell", x.ifPut(0, 3, 0, -5, 0), 147);
            due.is("a number in a table within", x.ifPut(1, 0, 0, -5, 0), 67);
            due.is("a sum in a table within", x.ifPut(1, 1, 0, -5, 0), 147);
        });
        s.holds("0: the value of the table 0 then", "through all five tables", due -> {
            NestedSums x = Build.chain(5);
            due.is("in the last one", x.ifPut(4, 0, 0, -7, 0), -7);
        });
    }

    private static void ifPutSums(Sentences s) {
        String words = "1: how many sums of all tables (but for this cell, if it is one) would show another number";
        s.holds(words, "none with the number that is there, or 0 in an empty cell", due -> {
            NestedSums x = mixed();
            due.is("the same number", x.ifPut(0, 0, 0, 5, 1), 0);
            due.is("0 in an empty cell", x.ifPut(0, 3, 0, 0, 1), 0);
            due.is("0 in place of a word", x.ifPut(0, 1, 2, 0, 1), 0);
            due.is("another number", x.ifPut(0, 0, 0, 6, 1), 3);
        });
        s.holds(words, "of all tables, the outer ones and its own", due -> {
            NestedSums x = Build.chain(4);
            x.nest(3, 0, 0, 2, 1);
            x.put(4, 1, 0, 4, 0);
            x.put(0, 2, 2, 6, 0);
            x.put(0, 1, 0, 4, 0);
            due.is("in the last one", x.ifPut(4, 0, 0, 1, 1), 3);
            due.is("in the first one", x.ifPut(0, 0, 2, 1, 1), 1);
        });
        s.holds(words, "of all tables, but not those within another cell", due -> {
            NestedSums x = new NestedSums();
            x.nest(0, 1, 1, 1, 2);
            x.put(1, 0, 0, 6, 0);
            x.put(0, 0, 0, 6, 0);
            due.is("in the table 0", x.ifPut(0, 2, 2, 5, 1), 1);
        });
        s.holds("(but for this cell, if it is one)",
                "a sum that shows another number, and one that shows the same", due -> {
            NestedSums x = new NestedSums();
            x.put(0, 0, 0, 1, 5);
            x.put(0, 2, 2, 6, 0);
            due.is("another number", x.ifPut(0, 2, 2, 7, 1), 0);
            due.is("the same number", x.ifPut(0, 2, 2, 5, 1), 0);
            x.put(0, 2, 1, 6, 0);
            due.is("with another sum", x.ifPut(0, 2, 2, 7, 1), 1);
            due.is("with another sum, and 0", x.ifPut(0, 2, 2, 0, 1), 0);
        });
        s.holds("would show another number", "a column sum that is gone ends no other one", due -> {
            NestedSums x = Build.grid(4, 1);
            x.put(0, 0, 0, 1, 5);
            x.put(0, 1, 0, 4, 0);
            x.put(0, 3, 0, 4, 0);
            due.is("0 in its place", x.ifPut(0, 1, 0, 0, 1), 1);
            due.is("what is above too", x.ifPut(0, 1, 0, -5, 1), 0);
        });
        s.holds("would show another number", "one that has a nearer sum does not", due -> {
            NestedSums x = Build.grid(1, 5);
            x.put(0, 0, 1, 5, 0);
            x.put(0, 0, 3, 5, 0);
            due.is("the nearer one alone", x.ifPut(0, 0, 0, 5, 1), 1);
            due.is("the other alone", x.ifPut(0, 0, 2, 5, 1), 1);
            due.is("none", x.ifPut(0, 0, 4, 5, 1), 0);
        });
    }

    private static void ifPutWidth(Sentences s) {
        s.holds("2: the width of the table 0 then", "wider, narrower, and from nothing", due -> {
            NestedSums x = Build.grid(1, 2);
            due.is("from nothing", x.ifPut(0, 0, 0, 0, 2), 1);
            x.put(0, 0, 0, 2, 3);
            due.is("narrower", x.ifPut(0, 0, 0, 99, 2), 2);
            due.is("as wide", x.ifPut(0, 0, 0, 999, 2), 3);
            due.is("wider", x.ifPut(0, 0, 0, -999, 2), 4);
        });
        s.holds("2: the width of the table 0 then", "with the sums that grow, and with lines", due -> {
            NestedSums x = Build.grid(1, 3);
            x.put(0, 0, 1, 6, 0);
            x.put(0, 0, 2, 1, 1);
            due.is("a sum of four signs", x.ifPut(0, 0, 0, 999, 2), 3 + 4 + 1);
            x.rule(0, 0, 1, 1, 1);
            due.is("with a line", x.ifPut(0, 0, 0, 999, 2), 3 + 4 + 1 + 1);
        });
        s.holds("2: the width of the table 0 then", "in the last of five tables, with its lines", due -> {
            NestedSums x = Build.chain(5);
            x.rule(4, 0, 0, 3, 1);
            due.is("with a line in each", x.ifPut(4, 0, 0, -10, 2), 3 + 5);
        });
    }

    private static void ifPutRefused(Sentences s) {
        s.holds("NONE if the square is no cell, or has a table.", "each what, each number", due -> {
            NestedSums x = Build.places();
            for (int what = 0; what <= 2; what++) {
                due.is("no cell", x.ifPut(0, 2, 1, 5, what), -1);
                due.is("a table that is the last", x.ifPut(0, 1, 1, 0, what), -1);
            }
            x.nest(1, 0, 0, 1, 1);
            due.is("a table that is not the last", x.ifPut(0, 1, 1, 5, 0), -1);
            due.is("a value of -1 is none", x.ifPut(0, 0, 0, -1, 0), -1);
            due.is("tables", x.count(0), 3);
        });
        s.holds(NO_SQUARE, "just beyond, and far off",
                due -> Build.outside(due, (x, table, row, column) -> x.ifPut(table, row, column, 1, 0)));
        s.holds("Throws `IllegalArgumentException` if number or what is out of range",
                "one of them, also of no cell", due -> {
            NestedSums x = Build.places();
            due.accepts("the least", () -> x.ifPut(0, 0, 0, 0, 0));
            due.accepts("the greatest", () -> x.ifPut(0, 0, 0, 0, 2));
            due.refusesEach(x, Build.ARGUMENT, "what", what -> x.ifPut(0, 0, 0, 0, what), -1, 3);
            due.refusesEach(x, Build.ARGUMENT, "the number", number -> x.ifPut(0, 0, 0, number, 1), -1000, 1000);
            due.refuses(x, Build.ARGUMENT, "the number, of no cell", () -> x.ifPut(0, 2, 1, 1000, 0));
            due.refuses(x, Build.ARGUMENT, "what, of a table", () -> x.ifPut(0, 1, 1, 0, 3));
        });
    }

    private static void countedBy(Sentences s) {
        s.promise(20);
        s.holds("Tells how many sums count a cell.", "none, and one of each kind", due -> {
            NestedSums x = new NestedSums();
            due.is("none", x.countedBy(0, 0, 0), 0);
            x.put(0, 2, 0, 4, 0);
            due.is("a column sum", x.countedBy(0, 0, 0), 1);
            x.put(0, 0, 2, 5, 0);
            due.is("a row sum", x.countedBy(0, 0, 0), 2);
            x.put(0, 2, 2, 6, 0);
            due.is("a table sum", x.countedBy(0, 0, 0), 3);
            due.is("the cell in the middle", x.countedBy(0, 1, 1), 1);
        });
        s.holds("Tells how many sums count a cell.", "the nearest one in its column and row alone", due -> {
            NestedSums x = Build.grid(5, 5);
            for (int k = 2; k <= 4; k += 2) {
                x.put(0, k, 0, 4, 0);
                x.put(0, 0, k, 5, 0);
            }
            due.is("the first", x.countedBy(0, 0, 0), 2);
            due.is("behind the nearest column sum", x.countedBy(0, 3, 0), 1);
            due.is("behind the nearest row sum", x.countedBy(0, 0, 3), 1);
        });
        s.holds("Tells how many sums count a cell.", "each sum once, and as many as there can be", due -> {
            NestedSums x = Build.grid(5, 5);
            x.span(0, 0, 0, 4, 4);
            for (int k = 0; k <= 3; k++) {
                x.put(0, 4, k, 4, 0);
                x.put(0, k, 4, 5, 0);
            }
            x.put(0, 4, 4, 6, 0);
            due.is("the great cell", x.countedBy(0, 0, 0), 9);
        });
        int[] kinds = {0, 1, 2, 3};
        for (int kind : kinds) {
            s.holds("Returns how many sums of its table count it (whatever is in it)", "the kind " + kind, due -> {
                NestedSums x = new NestedSums();
                x.put(0, 1, 0, 4, 0);
                x.put(0, 2, 2, 6, 0);
                if (kind == 3) {
                    x.nest(0, 0, 0, 1, 1);
                } else {
                    x.put(0, 0, 0, kind, 1);
                }
                due.is("countedBy", x.countedBy(0, 0, 0), 2);
            });
        }
        s.holds("Returns how many sums of its table count it (whatever is in it)", "a number 0", due -> {
            NestedSums x = new NestedSums();
            x.put(0, 0, 0, 1, 0);
            x.put(0, 1, 0, 4, 0);
            due.is("countedBy", x.countedBy(0, 0, 0), 1);
        });
        s.holds(NO_SQUARE,
                "just beyond, and far off", due -> Build.outside(due, NestedSums::countedBy));
    }

    private static void countedAround(Sentences s) {
        String words = "and, for each table around it in turn, of those that count the cell which has the table";
        s.holds(words, "one more for each of five tables", due -> {
            NestedSums x = Build.grid(2, 1);
            for (int table = 1; table <= 4; table++) {
                x.nest(table - 1, 0, 0, 2, 1);
            }
            for (int table = 0; table <= 4; table++) {
                x.put(table, 1, 0, 4, 0);
            }
            for (int table = 0; table <= 4; table++) {
                due.is("the first cell of the table " + table, x.countedBy(table, 0, 0), table + 1);
            }
        });
        s.holds(words, "not by the row and column of the cell itself", due -> {
            NestedSums x = new NestedSums();
            x.nest(0, 1, 1, 3, 3);
            x.put(0, 1, 2, 5, 0);
            x.put(0, 0, 2, 5, 0);
            due.is("in the first row of the table within", x.countedBy(1, 0, 0), 1);
            due.is("in its last row", x.countedBy(1, 2, 2), 1);
        });
        s.holds(words, "sums of tables beside or within do not count it", due -> {
            NestedSums x = new NestedSums();
            x.nest(0, 0, 0, 1, 2);
            x.nest(0, 0, 1, 1, 2);
            x.put(1, 0, 1, 6, 0);
            x.put(2, 0, 1, 6, 0);
            due.is("in the first one", x.countedBy(1, 0, 0), 1);
            due.is("the cell that has it", x.countedBy(0, 0, 0), 0);
        });
        s.holds("NONE if the square is no cell", "each square beside the first one", due -> {
            NestedSums x = new NestedSums();
            x.span(0, 0, 0, 2, 2);
            x.put(0, 2, 2, 6, 0);
            due.is("to the right", x.countedBy(0, 0, 1), -1);
            due.is("below", x.countedBy(0, 1, 0), -1);
            due.is("the last one", x.countedBy(0, 1, 1), -1);
            due.is("the first one", x.countedBy(0, 0, 0), 1);
        });
        for (int kind = 4; kind <= 6; kind++) {
            int sum = kind;
            s.holds("0 for a sum, whatever is around it.",
                    "the kind " + sum + ", among other sums and within a table", due -> {
                NestedSums x = new NestedSums();
                x.nest(0, 0, 0, 3, 3);
                for (int table = 0; table <= 1; table++) {
                    x.put(table, 1, 1, sum, 0);
                    x.put(table, 2, 1, 4, 0);
                    x.put(table, 1, 2, 5, 0);
                    x.put(table, 2, 2, 6, 0);
                }
                due.is("in the table 0", x.countedBy(0, 1, 1), 0);
                due.is("in the table within", x.countedBy(1, 1, 1), 0);
                due.is("a cell beside it", x.countedBy(1, 0, 2), sum == 6 ? 4 : 2);
            });
        }
    }

    private static NestedSums rows(int... heights) {
        NestedSums x = Build.grid(heights.length, 1);
        for (int row = 0; row < heights.length; row++) {
            if (heights[row] > 1) {
                Build.high(x, row, 0, heights[row]);
            } else if (heights[row] == 1) {
                x.put(0, row, 0, 1, 5);
            }
        }
        return x;
    }

    private static void heights(Due due, NestedSums x, int... least) {
        for (int pages = 1; pages <= 5; pages++) {
            due.is("heightFor(" + pages + ")", x.heightFor(pages), least[pages - 1]);
        }
    }

    private static void heightFor(Sentences s) {
        s.promise(21);
        s.holds("Finds the least height of a page with which there are at most so many pages.",
                "rows that are alike", due -> {
            heights(due, rows(1, 1, 1, 1, 1), 5, 3, 2, 2, 1);
            heights(due, rows(1), 1, 1, 1, 1, 1);
        });
        s.holds("Finds the least height of a page with which there are at most so many pages.",
                "rows that are not", due -> {
            heights(due, rows(2, 3, 1, 2, 2), 10, 5, 4, 3, 1);
            heights(due, rows(5, 1, 1, 0, 1), 8, 3, 2, 1, 1);
        });
        s.holds("Finds the least height of a page with which there are at most so many pages.",
                "blocks of rows", due -> {
            NestedSums x = Build.grid(4, 2);
            Build.numbers(x, 0, new int[][] {{1}, {1}, {1}, {1}});
            x.span(0, 1, 1, 2, 1);
            heights(due, x, 4, 3, 1, 1, 1);
        });
        s.holds("at most so many pages", "with the answer there are, with one less there are not", due -> {
            for (int pages = 1; pages <= 4; pages++) {
                NestedSums x = rows(2, 3, 1, 2, 2);
                int least = x.heightFor(pages);
                x.set(least);
                due.is(pages + ", with the answer", x.count(9) <= pages ? 1 : 0, 1);
                if (least > 1) {
                    x.set(least - 1);
                    due.is(pages + ", with one less", x.count(9) <= pages ? 1 : 0, 0);
                }
            }
        });
        s.holds("Finds the least height of a page", "whatever the setting is, which stays", due -> {
            for (int height : new int[] {1, 60}) {
                NestedSums x = rows(1, 1, 1, 1, 1);
                x.set(height);
                heights(due, x, 5, 3, 2, 2, 1);
                due.is("the setting", x.set(7), height);
            }
        });
        s.holds("`pages`: 1 to 5", "the least, the greatest, and those beyond", due -> {
            NestedSums x = rows(1, 1, 1, 1, 1);
            due.is("the least", x.heightFor(1), 5);
            due.is("the greatest", x.heightFor(5), 1);
            due.refusesEach(x, Build.ARGUMENT, "pages", x::heightFor, -1, 0, 6);
        });
        s.holds("Returns the least setting 0, 1 to 60",
                "1 for rows without height, and for as many pages as rows", due -> {
            heights(due, rows(0, 0, 0, 0, 0), 1, 1, 1, 1, 1);
            due.is("a high row alone", rows(5).heightFor(1), 1);
            due.is("high rows", rows(5, 5, 5, 5).heightFor(4), 1);
        });
        s.holds("NONE if there is none.",
                "the highest rows that there can be are 45 together, so there is one", due -> {
            NestedSums x = Build.grid(5, 1);
            for (int table = 1; table <= 4; table++) {
                x.nest(table - 1, 0, 0, 5, 1);
            }
            for (int table = 4; table >= 0; table--) {
                Build.fill(x, table, 1);
                for (int row = 0; row < 5 && table > 0; row++) {
                    x.rule(table, row, 0, 0, 1);
                    x.rule(table, row, 0, 2, 1);
                }
            }
            due.is("the first row", x.size(0, true, 0), 41);
            due.is("one page", x.heightFor(1), 45);
            due.is("two pages", x.heightFor(2), 4);
        });
        s.holds("Throws `IllegalArgumentException` if pages is out of range", "also if there are fewer rows", due -> {
            NestedSums x = rows(1);
            due.refusesEach(x, Build.ARGUMENT, "pages", x::heightFor, 0, 6, -1);
            due.is("five pages of one row", x.heightFor(5), 1);
        });
    }

    private static void filledShare(Sentences s) {
        s.promise(22);
        s.holds("Returns how much of the tables is filled.", "nothing, and all", due -> {
            NestedSums x = Build.grid(1, 1);
            due.sameDouble("nothing", x.filledShare(), 0.0);
            x.put(0, 0, 0, 2, 1);
            due.sameDouble("all", x.filledShare(), 1.0);
        });
        String words = "Returns the cells that are not empty, as a double, divided by all cells.";
        s.holds(words, "each number of cells of each table", due -> {
            for (int rows = 1; rows <= 5; rows++) {
                for (int columns = 1; columns <= 5; columns++) {
                    NestedSums x = Build.grid(rows, columns);
                    int cells = rows * columns;
                    for (int filled = 0; filled < cells; filled++) {
                        due.sameDouble(filled + " of " + cells, x.filledShare(), (double) filled / cells);
                        x.put(0, filled / columns, filled % columns, 1, 0);
                    }
                    due.sameDouble("all of " + cells, x.filledShare(), 1.0);
                }
            }
        });
        for (int kind : new int[] {1, 2, 3, 4, 5, 6}) {
            s.holds(words, "the kind " + kind + " is not empty", due -> {
                NestedSums x = new NestedSums();
                if (kind == 3) {
                    x.nest(0, 0, 0, 1, 1);
                } else {
                    x.put(0, 0, 0, kind, 1);
                }
                due.sameDouble("the share", x.filledShare(), kind == 3 ? 1.0 / 10 : 1.0 / 9);
            });
        }
        s.holds(words, "squares that are no cells are not counted", due -> {
            NestedSums x = new NestedSums();
            x.span(0, 0, 0, 3, 2);
            due.sameDouble("an empty one", x.filledShare(), 0.0);
            x.put(0, 0, 0, 1, 5);
            due.sameDouble("one of four", x.filledShare(), 0.25);
        });
        s.holds(words, "the cells of all tables", due -> {
            NestedSums x = Build.chain(5);
            due.sameDouble("four tables", x.filledShare(), 4.0 / 13);
            x.put(4, 0, 0, 1, 5);
            due.sameDouble("and a number in the last one", x.filledShare(), 5.0 / 13);
        });
    }

    /** 31 to the power of the number of values behind one in the list: what one more of it adds to the hash. */
    private static long weight(int valuesBehind) {
        long weight = 1;
        for (int k = 0; k < valuesBehind; k++) {
            weight *= 31;
        }
        return weight;
    }

    private static void digest(Sentences s) {
        s.promise(23);
        s.holds("Computes a hash of the whole state.", "the same for the same calls, and again", due -> {
            NestedSums x = mixed();
            due.is("two objects", x.digest(), mixed().digest());
            due.is("again", x.digest(), x.digest());
        });
        s.holds("Computes a hash of the whole state.", "another one after each kind of change", due -> {
            NestedSums x = mixed();
            Due.Call[] calls = {() -> x.set(9), () -> x.rule(0, 0, 0, 0, 1), () -> x.span(0, 3, 0, 1, 1),
                    () -> x.append('!'), () -> x.put(0, 0, 0, 1, 6), () -> x.nest(0, 2, 1, 1, 1), () -> x.begin(4, 3)};
            for (int k = 0; k < calls.length; k++) {
                long before = x.digest();
                calls[k].on();
                due.is("the change " + k, x.digest() == before ? 1 : 0, 0);
            }
        });
        s.holds("The hash starts at 2887.", "the whole list of one empty square", due -> {
            NestedSums x = Build.grid(1, 1);
            due.is("the digest", x.digest(), DigestList.hash(1, 1, 1, 0, 0, 0, 0, 0, 0, 1, 0, 0, 1, 10,
                    1, 1, 0, 0, 0, 0, 0, -1, 0, 0, 0, 0, 0, 1, 1, 0, 0, -1, 0, 0, 0, 0, 0, 0, 0, 0, 0,
                    0, 77, 0, 2, 1, 1, 0, 0));
        });
        String becomes = "For each value v of the following list, in order, the hash becomes 31 * hash + v";
        s.holds(becomes + ", in long arithmetic with overflow.", "through a full buffer", due -> {
            NestedSums x = new NestedSums();
            long hash = x.digest() + 60;
            for (int k = 0; k < 60; k++) {
                x.append(126 - k);
                hash = hash * 31 + 126 - k;
            }
            due.is("60 characters", x.digest(), hash);
        });
        s.holds(becomes, "negative values too", due -> {
            NestedSums x = new NestedSums();
            x.put(0, 0, 0, 1, -999);
            due.is("the digest", x.digest(), DigestList.told(x, 10, ""));
        });
        s.holds("The values are: count(0) to count(12)", "all of them other than 0", due -> {
            NestedSums x = mixed();
            x.rule(0, 0, 0, 0, 1);
            x.set(1);
            for (int what = 0; what <= 12; what++) {
                due.is("count(" + what + ") is something", x.count(what) > 0 ? 1 : 0, 1);
            }
            due.is("the digest", x.digest(), DigestList.told(x, 1, ""));
        });
        s.holds("The values are: count(0) to count(12)", "saved states count", due -> {
            NestedSums x = new NestedSums();
            long none = x.digest();
            x.set(10);
            due.is("one saved state", x.digest(), none + weight(178));
        });
        s.holds("the setting 0", "the least, and the greatest", due -> {
            NestedSums x = new NestedSums();
            x.set(1);
            long least = x.digest();
            x.undo();
            x.set(60);
            due.is("59 more", x.digest(), least + 59 * weight(177));
            x.undo();
            x.set(10);
            due.is("the first one", x.digest(), least + 9 * weight(177));
        });
    }

    private static void digestParts(Sentences s) {
        String words = "for each table its properties 0 to 7, the widths of its columns, then the heights of its rows, "
                + "and, for each of its squares, by rows, cell with 0 to 11, edge of all sides, and countedBy";
        s.holds(words, "one square with a number and a rule, value by value", due -> {
            NestedSums x = Build.grid(1, 1);
            x.put(0, 0, 0, 1, -5);
            x.rule(0, 0, 0, 1, 3);
            x.set(12);
            due.is("the digest", x.digest(), DigestList.hash(1, 1, 0, 1, 0, 0, 0, 0, 0, 1, 1, 0, 4, 12,
                    1, 1, -5, 3, 1, 1, 0, -1, 2, 1, 1, -5, -5, 1, 1, 2, 1, -1, 0, 3, 0, 0, 0, 3, 0, 0, 0,
                    0, 77, 0, 3, 1, 1, 0x3ff0000000000000L, 0));
        });
        s.holds(words, "two tables, with more columns than rows, and more rows than columns", due -> {
            NestedSums x = Build.grid(2, 4);
            x.nest(0, 0, 3, 4, 1);
            x.put(1, 2, 0, 2, 8);
            x.put(1, 3, 0, 6, 0);
            x.put(0, 1, 0, 1, -12);
            x.put(0, 1, 2, 5, 0);
            x.rule(1, 3, 0, 1, 2);
            x.span(0, 0, 0, 1, 2);
            due.is("the digest", x.digest(), DigestList.told(x, 10, ""));
        });
        s.holds(words, "five tables", due -> {
            NestedSums x = Build.chain(5);
            x.put(4, 0, 0, 1, 5);
            due.is("the digest", x.digest(), DigestList.told(x, 10, ""));
        });
        s.holds("the pages of all rows of the table 0", "one, and five", due -> {
            NestedSums x = rows(1, 1, 1, 1, 1);
            due.is("one", x.digest(), DigestList.told(x, 10, ""));
            x.set(1);
            due.is("five", x.digest(), DigestList.told(x, 1, ""));
        });
        String first = "ifPut of the table 0, row 0, column 0, with 77, and 0 to 2";
        s.holds(first, "a table there, so NONE three times", due -> {
            NestedSums x = Build.chain(2);
            due.is("the digest", x.digest(), DigestList.told(x, 10, ""));
        });
        for (int kind : new int[] {0, 1, 2, 4, 5, 6}) {
            s.holds(first, "in place of the kind " + kind + ", with a sum that may change", due -> {
                NestedSums x = new NestedSums();
                x.put(0, 2, 2, 6, 0);
                x.put(0, 0, 0, kind, 12);
                due.is("the digest", x.digest(), DigestList.told(x, 10, ""));
            });
        }
        s.holds(first, "77 itself, so no sum would change", due -> {
            NestedSums x = new NestedSums();
            x.put(0, 2, 2, 6, 0);
            x.put(0, 0, 0, 1, 77);
            due.is("sums", x.ifPut(0, 0, 0, 77, 1), 0);
            due.is("the digest", x.digest(), DigestList.told(x, 10, ""));
        });
        s.holds("heightFor 1 and 2", "not alike", due -> {
            NestedSums x = rows(3, 3, 0, 0, 2);
            due.is("for one page", x.heightFor(1), 8);
            due.is("for two pages", x.heightFor(2), 5);
            due.is("the digest", x.digest(), DigestList.told(x, 10, ""));
        });
        s.holds("the bits of filledShare (as Double.doubleToLongBits)", "each number of cells of each table", due -> {
            for (int rows = 1; rows <= 5; rows++) {
                for (int columns = rows; columns <= 5; columns++) {
                    for (int filled = 0; filled <= rows * columns; filled++) {
                        NestedSums x = Build.grid(rows, columns);
                        for (int square = 0; square < filled; square++) {
                            x.put(0, square / columns, square % columns, 2, 1);
                        }
                        due.is(filled + " of " + rows * columns, x.digest(), DigestList.told(x, 10, ""));
                    }
                }
            }
        });
        s.holds("the length of the buffer and each of its character codes.",
                "none, the least, the greatest, and an order", due -> {
            for (String text : new String[] {"", "!", "~", "!~", "~!", "0a1=-999;4e5w12"}) {
                NestedSums x = new NestedSums();
                Due.type(x, text);
                due.is("with " + text, x.digest(), DigestList.told(x, 10, text));
            }
        });
        s.holds("the length of the buffer and each of its character codes.", "not those that were cleared", due -> {
            NestedSums x = new NestedSums();
            Due.type(x, "abc");
            x.clearBuffer();
            due.is("the digest", x.digest(), new NestedSums().digest());
        });
    }
}
