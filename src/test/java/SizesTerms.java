/** Tests of the terms that hold for all promises: widths, heights, pages and settings. */
final class SizesTerms {
    private SizesTerms() {
    }

    static void all(Sentences s) {
        s.promise(0);
        contents(s);
        columns(s);
        wideCells(s);
        tableWidths(s);
        rows(s);
        highCells(s);
        tableHeights(s);
        blocks(s);
        pages(s);
        settings(s);
    }

    private static void contents(Sentences s) {
        s.holds("The width of what is in a cell is: 0 for an empty one",
                "also with rules, and with more columns", due -> {
            NestedSums x = new NestedSums();
            x.span(0, 0, 0, 1, 3);
            x.rule(0, 0, 0, 1, 3);
            due.is("what is in it", x.cell(0, 0, 0, 5), 0);
            due.is("the column", x.size(0, false, 2), 0);
        });
        int[] numbers = {0, 9, 10, 99, 100, 999, -1, -9, -10, -99, -100, -999};
        int[] signs = {1, 1, 2, 2, 3, 3, 2, 2, 3, 3, 4, 4};
        for (int k = 0; k < numbers.length; k++) {
            int number = numbers[k];
            int width = signs[k];
            s.holds("the number of signs of a number (with \"-\")", "of " + number, due -> {
                NestedSums x = new NestedSums();
                x.put(0, 1, 1, 1, number);
                due.is("what is in it", x.cell(0, 1, 1, 5), width);
                due.is("the column", x.size(0, false, 1), width);
            });
        }
        s.holds("or of the number that a sum shows", "of 0, of four signs, and with \"-\"", due -> {
            NestedSums x = Build.grid(3, 1);
            x.put(0, 2, 0, 4, 0);
            due.is("of 0", x.cell(0, 2, 0, 5), 1);
            x.put(0, 0, 0, 1, 999);
            due.is("of 999", x.cell(0, 2, 0, 5), 3);
            x.put(0, 1, 0, 1, 1);
            due.is("of 1000", x.cell(0, 2, 0, 5), 4);
            x.put(0, 0, 0, 1, -999);
            x.put(0, 1, 0, 1, -1);
            due.is("of -1000", x.cell(0, 2, 0, 5), 5);
        });
        s.holds("or of the number that a sum shows", "of the greatest and the least that there can be", due -> {
            for (int number : new int[] {999, -999}) {
                NestedSums x = Build.grid(5, 5);
                for (int table = 1; table <= 4; table++) {
                    x.nest(0, table, 0, 5, 5);
                    Build.fill(x, table, number);
                }
                x.put(0, 0, 0, 6, 0);
                Build.fill(x, 0, number);
                due.is("the sum", x.cell(0, 0, 0, 2), 120 * number);
                due.is("its signs", x.cell(0, 0, 0, 5), number > 0 ? 6 : 7);
            }
        });
        s.holds("the width of a word", "the least and the greatest", due -> {
            NestedSums x = new NestedSums();
            x.put(0, 0, 0, 2, 1);
            x.put(0, 0, 1, 2, 12);
            due.is("the least", x.cell(0, 0, 0, 5), 1);
            due.is("the greatest", x.cell(0, 0, 1, 5), 12);
        });
        s.holds("the width of a table.", "an empty one, one with a line, and all five", due -> {
            NestedSums x = Build.chain(5);
            due.is("an empty one", x.cell(0, 0, 0, 5), 0);
            x.rule(4, 0, 0, 1, 1);
            due.is("with a line in each", x.cell(0, 0, 0, 5), 4);
            x.put(4, 0, 0, 2, 12);
            due.is("with a word", x.cell(0, 0, 0, 5), 16);
        });
    }

    private static void columns(Sentences s) {
        String words = "The columns get the greatest width of what is in their cells with one column";
        s.holds(words, "in the first row, between, and in the last row", due -> {
            for (int row = 0; row < 3; row++) {
                NestedSums x = new NestedSums();
                for (int other = 0; other < 3; other++) {
                    x.put(0, other, 1, 2, other == row ? 8 : 7);
                }
                due.is("row " + row, x.size(0, false, 1), 8);
                due.is("the column before", x.size(0, false, 0), 0);
                due.is("the column behind", x.size(0, false, 2), 0);
            }
        });
        s.holds(words, "a cell of more rows is one with one column", due -> {
            NestedSums x = new NestedSums();
            x.span(0, 0, 2, 3, 1);
            x.put(0, 0, 2, 2, 9);
            due.is("the column", x.size(0, false, 2), 9);
        });
        s.holds(words, "a cell with more columns does not widen its first one", due -> {
            NestedSums x = new NestedSums();
            x.span(0, 0, 0, 1, 2);
            x.put(0, 0, 0, 2, 9);
            x.put(0, 1, 0, 2, 4);
            due.is("the first", x.size(0, false, 0), 4);
            due.is("the last", x.size(0, false, 1), 5);
        });
    }

    private static void wideCells(Sentences s) {
        s.holds("for each cell with more columns, by ascending rows, then columns", "the upper one first", due -> {
            NestedSums x = Build.grid(2, 3);
            x.span(0, 0, 1, 1, 2);
            x.put(0, 0, 1, 2, 6);
            x.span(0, 1, 0, 1, 2);
            x.put(0, 1, 0, 2, 8);
            due.is("the column of both", x.size(0, false, 1), 8);
            due.is("the upper one's last", x.size(0, false, 2), 6);
            due.is("the first", x.size(0, false, 0), 0);
        });
        s.holds("for each cell with more columns, by ascending rows, then columns",
                "the upper one gives to the lower one", due -> {
            NestedSums x = Build.grid(2, 3);
            x.span(0, 0, 0, 1, 2);
            x.put(0, 0, 0, 2, 6);
            x.span(0, 1, 1, 1, 2);
            x.put(0, 1, 1, 2, 8);
            due.is("the column of both", x.size(0, false, 1), 6);
            due.is("the last", x.size(0, false, 2), 2);
        });
        s.holds("for each cell with more columns, by ascending rows, then columns", "not by how many columns", due -> {
            NestedSums x = Build.grid(2, 3);
            x.span(0, 0, 0, 1, 3);
            x.put(0, 0, 0, 2, 6);
            x.span(0, 1, 0, 1, 2);
            x.put(0, 1, 0, 2, 5);
            due.is("the last of three", x.size(0, false, 2), 6);
            due.is("the last of two", x.size(0, false, 1), 5);
        });
        s.holds("the last of its columns gets as much more as is wanted for it", "the last, and no other", due -> {
            NestedSums x = Build.grid(2, 5);
            x.span(0, 0, 0, 1, 5);
            x.put(0, 0, 0, 2, 12);
            x.put(0, 1, 1, 2, 3);
            int[] widths = {0, 3, 0, 0, 9};
            for (int column = 0; column < 5; column++) {
                due.is("column " + column, x.size(0, false, column), widths[column]);
            }
        });
        String wanted = "if the widths of its columns together (without lines) are less than that of what is in it.";
        s.holds(wanted, "one less, the same, and one more", due -> {
            NestedSums x = Build.grid(2, 2);
            x.span(0, 0, 0, 1, 2);
            x.put(0, 1, 0, 2, 4);
            x.put(0, 1, 1, 2, 3);
            int[] last = {3, 3, 4};
            for (int width = 6; width <= 8; width++) {
                x.put(0, 0, 0, 2, width);
                due.is("of " + width, x.size(0, false, 1), last[width - 6]);
                due.is("the first, of " + width, x.size(0, false, 0), 4);
            }
        });
        s.holds(wanted, "a line between its columns is no part of them", due -> {
            NestedSums x = Build.grid(2, 2);
            x.span(0, 0, 0, 1, 2);
            x.put(0, 0, 0, 2, 8);
            x.put(0, 1, 0, 2, 4);
            x.put(0, 1, 1, 2, 3);
            x.rule(0, 1, 0, 1, 1);
            due.is("the last", x.size(0, false, 1), 4);
            due.is("the table", x.table(0, 3), 9);
        });
    }

    private static void tableWidths(Sentences s) {
        String words = "The width of a table is that of its columns, and 1 for each line between columns, "
                + "or at the border";
        s.holds(words, "no lines, one, and all", due -> {
            NestedSums x = Build.grid(1, 5);
            for (int column = 0; column < 5; column++) {
                x.put(0, 0, column, 2, 12);
            }
            due.is("no lines", x.table(0, 3), 60);
            for (int column = 0; column < 5; column++) {
                x.rule(0, 0, column, 3, 3);
                due.is("lines " + (column + 1), x.table(0, 3), 61 + column);
            }
            x.rule(0, 0, 4, 1, 1);
            due.is("all six", x.table(0, 3), 66);
        });
        s.holds(words, "lines between rows are none", due -> {
            NestedSums x = new NestedSums();
            x.rule(0, 0, 0, 0, 1);
            x.rule(0, 1, 1, 2, 1);
            due.is("the width", x.table(0, 3), 0);
        });
        s.holds(words, "a line of a table within makes one outside", due -> {
            NestedSums x = new NestedSums();
            x.nest(0, 1, 1, 1, 1);
            x.put(1, 0, 0, 2, 5);
            x.rule(1, 0, 0, 1, 1);
            due.is("within", x.table(1, 3), 6);
            due.is("outside", x.table(0, 3), 7);
        });
    }

    private static void rows(Sentences s) {
        s.holds("Heights of rows are likewise", "the greatest, in the first column, between, and in the last", due -> {
            for (int column = 0; column < 3; column++) {
                NestedSums x = new NestedSums();
                for (int other = 0; other < 3; other++) {
                    Build.high(x, 1, other, other == column ? 5 : 4);
                }
                due.is("column " + column, x.size(0, true, 1), 5);
                due.is("the row before", x.size(0, true, 0), 0);
                due.is("the row behind", x.size(0, true, 2), 0);
            }
        });
        s.holds("with the height 0 for what is empty", "also with rules, and with more rows", due -> {
            NestedSums x = new NestedSums();
            x.span(0, 0, 0, 3, 1);
            x.rule(0, 0, 0, 2, 3);
            due.is("what is in it", x.cell(0, 0, 0, 6), 0);
            due.is("the last row", x.size(0, true, 2), 0);
        });
        int[] kinds = {1, 2, 4, 5, 6};
        for (int kind : kinds) {
            s.holds("1 for numbers, words and sums", "the kind " + kind, due -> {
                NestedSums x = new NestedSums();
                x.put(0, 1, 1, kind, 12);
                due.is("what is in it", x.cell(0, 1, 1, 6), 1);
                due.is("the row", x.size(0, true, 1), 1);
            });
        }
        s.holds("and the height of a table", "an empty one, one with lines, and all five", due -> {
            NestedSums x = Build.chain(5);
            due.is("an empty one", x.cell(0, 0, 0, 6), 0);
            x.rule(4, 0, 0, 2, 1);
            due.is("with a line in each", x.cell(0, 0, 0, 6), 4);
            x.put(4, 0, 0, 2, 12);
            due.is("with a word", x.cell(0, 0, 0, 6), 5);
        });
    }

    private static void highCells(Sentences s) {
        s.holds("Heights of rows are likewise", "by ascending columns in one row", due -> {
            NestedSums x = Build.grid(3, 2);
            Build.high(x, 0, 0, 3);
            Build.high(x, 0, 1, 4);
            x.span(0, 0, 0, 2, 1);
            x.span(0, 0, 1, 3, 1);
            due.is("the first row", x.size(0, true, 0), 0);
            due.is("the first one's last row", x.size(0, true, 1), 3);
            due.is("the second one's last row", x.size(0, true, 2), 1);
        });
        s.holds("Heights of rows are likewise", "by ascending rows ahead of columns", due -> {
            NestedSums x = Build.grid(3, 2);
            Build.high(x, 0, 1, 4);
            Build.high(x, 1, 0, 3);
            x.span(0, 0, 1, 2, 1);
            x.span(0, 1, 0, 2, 1);
            due.is("the upper one's last row", x.size(0, true, 1), 4);
            due.is("the lower one's last row", x.size(0, true, 2), 0);
        });
        s.holds("cells with more rows give to their last row.", "the last, and no other", due -> {
            NestedSums x = Build.grid(5, 2);
            Build.high(x, 0, 0, 5);
            x.span(0, 0, 0, 5, 1);
            x.put(0, 1, 1, 1, 5);
            int[] heights = {0, 1, 0, 0, 4};
            for (int row = 0; row < 5; row++) {
                due.is("row " + row, x.size(0, true, row), heights[row]);
            }
        });
        s.holds("cells with more rows give to their last row.", "one less, the same, and one more is wanted", due -> {
            int[] last = {1, 1, 2};
            for (int height = 1; height <= 3; height++) {
                NestedSums x = Build.grid(2, 2);
                x.put(0, 0, 1, 1, 5);
                x.put(0, 1, 1, 1, 5);
                Build.high(x, 0, 0, height);
                x.span(0, 0, 0, 2, 1);
                due.is("of " + height, x.size(0, true, 1), last[height - 1]);
                due.is("the first, of " + height, x.size(0, true, 0), 1);
            }
        });
        s.holds("cells with more rows give to their last row.", "a line between its rows is no part of them", due -> {
            NestedSums x = Build.grid(2, 2);
            x.put(0, 0, 1, 1, 5);
            x.put(0, 1, 1, 1, 5);
            x.rule(0, 0, 1, 2, 1);
            Build.high(x, 0, 0, 3);
            x.span(0, 0, 0, 2, 1);
            due.is("the last", x.size(0, true, 1), 2);
            due.is("the table", x.table(0, 4), 4);
        });
    }

    private static void tableHeights(Sentences s) {
        String words = "The height of a table is that of its rows, and 1 for each line that is drawn.";
        s.holds(words, "no lines, one, and all", due -> {
            NestedSums x = Build.grid(5, 1);
            Build.fill(x, 0, 1);
            due.is("no lines", x.table(0, 4), 5);
            for (int row = 0; row < 5; row++) {
                x.rule(0, row, 0, 0, 3);
                due.is("lines " + (row + 1), x.table(0, 4), 6 + row);
            }
            x.rule(0, 4, 0, 2, 1);
            due.is("all six", x.table(0, 4), 11);
        });
        s.holds(words, "lines between columns are none", due -> {
            NestedSums x = new NestedSums();
            x.rule(0, 0, 0, 3, 1);
            x.rule(0, 1, 1, 1, 1);
            due.is("the height", x.table(0, 4), 0);
        });
    }

    private static void blocks(Sentences s) {
        String words = "two rows one below the other are in one block if a cell has squares in both";
        s.holds(words, "a cell in the first, a middle, and the last column", due -> {
            for (int column = 0; column < 3; column++) {
                NestedSums x = new NestedSums();
                x.set(1);
                for (int row = 0; row < 3; row++) {
                    x.put(0, row, column == 0 ? 1 : 0, 1, 5);
                }
                due.is("parted", x.page(2), 2);
                x.span(0, 0, column, 2, 1);
                due.is("column " + column + ", the second row", x.page(1), 0);
                due.is("column " + column + ", the third row", x.page(2), 1);
            }
        });
        s.holds(words, "an empty cell too, and not one of more columns alone", due -> {
            NestedSums x = Build.grid(2, 3);
            x.set(1);
            x.put(0, 0, 0, 1, 5);
            x.put(0, 1, 0, 1, 5);
            x.span(0, 0, 1, 1, 2);
            due.is("of more columns", x.page(1), 1);
            x.span(0, 0, 1, 2, 2);
            due.is("of more rows too", x.page(1), 0);
        });
        s.holds("rows that a cell parts not are a block", "blocks that two cells share are one", due -> {
            NestedSums x = Build.grid(5, 3);
            x.set(1);
            for (int row = 0; row < 5; row++) {
                x.put(0, row, 0, 1, 5);
            }
            x.span(0, 0, 1, 2, 1);
            x.span(0, 1, 2, 3, 1);
            due.is("the rows 1 to 3", x.page(1) + x.page(2) + x.page(3), 0);
            due.is("the last row", x.page(4), 1);
            x.span(0, 3, 1, 2, 1);
            due.is("the last row in it", x.page(4), 0);
            due.is("pages", x.count(9), 1);
        });
        s.holds("rows that a cell parts not are a block", "cells one below the other part them", due -> {
            NestedSums x = Build.grid(4, 2);
            x.set(1);
            for (int row = 0; row < 4; row++) {
                x.put(0, row, 0, 1, 5);
            }
            x.span(0, 0, 1, 2, 1);
            x.span(0, 2, 1, 2, 1);
            int[] pages = {0, 0, 1, 1};
            for (int row = 0; row < 4; row++) {
                due.is("row " + row, x.page(row), pages[row]);
            }
        });
        s.holds("The rows of the table 0 are set on pages", "rows of tables within it are not", due -> {
            NestedSums x = new NestedSums();
            Build.high(x, 0, 0, 5);
            x.set(1);
            due.is("pages", x.count(9), 2);
            due.refuses(x, Build.OUTSIDE, "a row of the table within", () -> x.page(3));
        });
    }

    private static void pages(Sentences s) {
        String words = "if the heights of all rows on it (without lines) are at most setting 0 together then";
        s.holds(words, "the same as the setting, and one more", due -> {
            NestedSums x = Build.grid(5, 1);
            Build.fill(x, 0, 1);
            for (int height = 1; height <= 5; height++) {
                x.set(height);
                for (int row = 0; row < 5; row++) {
                    due.is("setting " + height + ", row " + row, x.page(row), row / height);
                }
            }
        });
        s.holds(words, "all rows on it, not the two last blocks alone", due -> {
            NestedSums x = Build.grid(4, 1);
            Build.fill(x, 0, 1);
            x.set(3);
            due.is("the third", x.page(2), 0);
            due.is("the fourth", x.page(3), 1);
        });
        s.holds(words, "all rows of a block", due -> {
            NestedSums x = Build.grid(4, 2);
            for (int row = 0; row < 4; row++) {
                x.put(0, row, 0, 1, 5);
            }
            x.span(0, 1, 1, 3, 1);
            x.set(3);
            due.is("three of four", x.page(1), 1);
            x.set(4);
            due.is("four of four", x.page(1), 0);
        });
        s.holds(words, "lines of the table 0 do not count, those of tables within do", due -> {
            NestedSums x = Build.grid(2, 1);
            x.nest(0, 0, 0, 1, 1);
            x.put(1, 0, 0, 1, 5);
            x.put(0, 1, 0, 1, 5);
            x.rule(0, 0, 0, 0, 3);
            x.rule(0, 0, 0, 2, 3);
            x.rule(0, 1, 0, 2, 3);
            x.set(2);
            due.is("lines of the table 0", x.page(1), 0);
            x.rule(1, 0, 0, 0, 1);
            due.is("a line within", x.page(1), 1);
        });
        s.holds("Each block comes to the page where the one ahead of it is",
                "the first one is on the first page, however high",
                due -> {
            NestedSums x = Build.grid(2, 1);
            Build.high(x, 0, 0, 5);
            x.set(4);
            due.is("the first", x.page(0), 0);
            due.is("pages", x.count(9), 2);
        });
        s.holds("Each block comes to the page where the one ahead of it is",
                "rows without height, with any setting", due -> {
            NestedSums x = Build.grid(5, 1);
            x.set(1);
            due.is("the last row", x.page(4), 0);
        });
        s.holds("Each block comes to the page where the one ahead of it is",
                "a row without height on a full page", due -> {
            NestedSums x = Build.grid(3, 1);
            x.put(0, 0, 0, 1, 5);
            x.put(0, 2, 0, 1, 5);
            x.set(1);
            due.is("the row without height", x.page(1), 0);
            due.is("the next one", x.page(2), 1);
        });
        s.holds("otherwise to a new one.", "a row without height behind a page that is too full", due -> {
            NestedSums x = Build.grid(3, 1);
            Build.high(x, 0, 0, 2);
            x.set(1);
            due.is("the row without height", x.page(1), 1);
            due.is("the next one without", x.page(2), 1);
        });
        s.holds("otherwise to a new one.", "where it counts from nothing again", due -> {
            NestedSums x = Build.grid(5, 1);
            Build.high(x, 0, 0, 3);
            Build.high(x, 2, 0, 2);
            x.put(0, 1, 0, 1, 5);
            x.put(0, 3, 0, 1, 5);
            x.put(0, 4, 0, 1, 5);
            x.set(3);
            int[] pages = {0, 1, 1, 2, 2};
            for (int row = 0; row < 5; row++) {
                due.is("row " + row, x.page(row), pages[row]);
            }
        });
        s.holds("otherwise to a new one.", "a row that is too high between others has a page alone", due -> {
            NestedSums x = Build.grid(3, 1);
            x.put(0, 0, 0, 1, 5);
            Build.high(x, 1, 0, 5);
            x.put(0, 2, 0, 1, 5);
            x.set(4);
            due.is("the high one", x.page(1), 1);
            due.is("the next", x.page(2), 2);
        });
    }

    private static void settings(Sentences s) {
        s.holds("0: the height of a page, 1 to 60, at first 10.", "at first 10 fit, and 11 do not", due -> {
            NestedSums x = new NestedSums();
            Build.high(x, 0, 0, 5);
            Build.high(x, 1, 0, 5);
            due.is("ten", x.page(1), 0);
            x.rule(2, 0, 0, 2, 1);
            due.is("eleven", x.page(1), 1);
            due.is("told by set", x.set(10), 10);
        });
        s.holds("0: the height of a page, 1 to 60, at first 10.", "the least, the greatest, and those beyond", due -> {
            NestedSums x = new NestedSums();
            x.set(1);
            due.is("the least", x.set(60), 1);
            due.is("the greatest", x.set(5), 60);
            due.refusesEach(x, Build.ARGUMENT, "the setting", height -> x.set(height), 0, 61, -1);
        });
    }
}
