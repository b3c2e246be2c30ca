/** Promises 13 to 18: cells, edges, tables, sizes, pages and counts. */
public final class LooksTest {
    private static final Class<IndexOutOfBoundsException> OUTSIDE = IndexOutOfBoundsException.class;
    private static final Class<IllegalArgumentException> ARGUMENT = IllegalArgumentException.class;
    private static final int LEAST = Integer.MIN_VALUE;
    private static final int MOST = Integer.MAX_VALUE;

    private LooksTest() {
    }

    private static void promise13Cell(Due due) {
        due.at("promise 13");
        NestedSums x = new NestedSums();
        x.put(0, 0, 0, 1, -50);
        x.put(0, 0, 1, 2, 7);
        x.span(0, 1, 0, 2, 2);
        x.nest(0, 1, 0, 1, 2);
        x.put(1, 0, 0, 1, 8);
        x.put(1, 0, 1, 1, 900);
        x.put(0, 0, 2, 6, 0);
        int[] number = {1, -50, -50, 1, 1, 3, 1, -1, 0, 0, 0, 0};
        int[] word = {2, 0, 0, 1, 1, 7, 1, -1, 0, 0, 0, 0};
        int[] empty = {0, 0, 0, 1, 1, 0, 0, -1, 0, 0, 0, 0};
        int[] sum = {6, 0, 858, 1, 1, 3, 1, -1, 0, 0, 0, 0};
        int[] inner = {3, 908, 908, 2, 2, 4, 1, 1, 0, 0, 0, 0};
        for (int what = 0; what <= 11; what++) {
            due.is("number " + what, x.cell(0, 0, 0, what), number[what]);
            due.is("word " + what, x.cell(0, 0, 1, what), word[what]);
            due.is("empty " + what, x.cell(0, 1, 2, what), empty[what]);
            due.is("sum " + what, x.cell(0, 0, 2, what), sum[what]);
            due.is("table " + what, x.cell(0, 1, 0, what), inner[what]);
            due.is("no cell " + what, x.cell(0, 2, 1, what), -1);
        }
        due.refuses(x, OUTSIDE, "no table", () -> x.cell(2, 0, 0, 0));
        due.refuses(x, OUTSIDE, "no row", () -> x.cell(0, 3, 0, 12));
        due.refuses(x, OUTSIDE, "no column", () -> x.cell(1, 0, 2, 0));
        for (int wrong : new int[] {12, -1, LEAST, MOST}) {
            due.refuses(x, ARGUMENT, "what " + wrong, () -> x.cell(0, 0, 0, wrong));
            due.refuses(x, ARGUMENT, "what " + wrong + " of no cell", () -> x.cell(0, 2, 1, wrong));
            due.refuses(x, OUTSIDE, "row " + wrong + ", ahead of what", () -> x.cell(0, wrong, 0, 12));
        }
        columnSums(due);
        rowSums(due);
        signs(due);
        rulesOfCells(due);
    }

    private static void columnSums(Due due) {
        NestedSums x = new NestedSums();
        x.begin(5, 5);
        Build.numbers(x, 0,
                new int[][] {{1, 2, 3, 4, 0}, {10, 20, 30, 40, 50}, {0, 0, 0, 400, 0}, {100, 200, 0, 0, 500}});
        x.span(0, 2, 0, 1, 2);
        x.put(0, 2, 0, 4, 0);
        x.put(0, 4, 0, 4, 0);
        x.put(0, 4, 1, 4, 0);
        x.put(0, 4, 2, 4, 0);
        due.is("of two columns", x.cell(0, 2, 0, 2), 33);
        due.is("from the nearest one on", x.cell(0, 4, 0, 2), 100);
        due.is("that one counts for both columns", x.cell(0, 4, 1, 2), 200);
        due.is("of all above", x.cell(0, 4, 2, 2), 33);
        x.put(0, 2, 4, 4, 0);
        x.span(0, 4, 3, 1, 2);
        x.put(0, 4, 3, 4, 0);
        due.is("from one in a single column on, with its row", x.cell(0, 4, 3, 2), 900);
        due.is("and above it", x.cell(0, 2, 4, 2), 50);
        x.put(0, 3, 0, 4, 0);
        due.is("one just above", x.cell(0, 4, 0, 2), 0);
        due.is("in the first row", x.put(0, 0, 1, 4, 0) + x.cell(0, 0, 1, 2), 1);
        due.is("from the first row on", x.cell(0, 2, 0, 2), 31);
        x.put(0, 1, 0, 4, 0);
        x.put(0, 3, 0, 1, 100);
        due.is("from the one above when the nearest goes", x.cell(0, 4, 0, 2), 100);
        x.put(0, 2, 0, 1, 999);
        due.is("from a nearest one that is farther then", x.cell(0, 4, 0, 2), 1099);
        NestedSums y = new NestedSums();
        y.begin(4, 3);
        y.put(0, 0, 0, 1, 5);
        y.span(0, 0, 0, 2, 2);
        y.put(0, 1, 2, 1, 70);
        y.span(0, 1, 2, 3, 1);
        y.put(0, 2, 0, 1, 600);
        y.put(0, 3, 0, 4, 0);
        y.span(0, 3, 0, 1, 2);
        due.is("a cell once", y.cell(0, 3, 0, 2), 605);
        y.put(0, 1, 2, 4, 0);
        y.put(0, 0, 2, 1, 9);
        due.is("a sum with more rows: by its least row", y.cell(0, 1, 2, 2), 9);
    }

    private static void rowSums(Due due) {
        NestedSums x = new NestedSums();
        x.begin(5, 5);
        Build.numbers(x, 0, new int[][] {{1, 10, 0, 100}, {2, 20, 0, 200}, {3, 30}, {4, 40, 400}, {0, 50, 0, 500}});
        x.span(0, 0, 2, 2, 1);
        x.put(0, 0, 2, 5, 0);
        x.put(0, 0, 4, 5, 0);
        x.put(0, 1, 4, 5, 0);
        x.put(0, 2, 4, 5, 0);
        due.is("of two rows", x.cell(0, 0, 2, 2), 33);
        due.is("from the nearest one on", x.cell(0, 0, 4, 2), 100);
        due.is("that one counts for both rows", x.cell(0, 1, 4, 2), 200);
        due.is("of all to the left", x.cell(0, 2, 4, 2), 33);
        x.put(0, 4, 2, 5, 0);
        x.span(0, 3, 4, 2, 1);
        x.put(0, 3, 4, 5, 0);
        due.is("from one in a single row on, with its column", x.cell(0, 3, 4, 2), 900);
        due.is("and to its left", x.cell(0, 4, 2, 2), 50);
        x.put(0, 3, 3, 4, 0);
        due.is("column sums do not end it", x.cell(0, 3, 4, 2), 900);
        due.is("nor do row sums end those", x.cell(0, 3, 3, 2), 300);
        x.put(0, 3, 0, 5, 0);
        due.is("in the first column", x.cell(0, 3, 0, 2), 0);
        NestedSums y = new NestedSums();
        y.nest(0, 0, 0, 1, 2);
        y.put(1, 0, 0, 1, 7);
        y.put(1, 0, 1, 6, 0);
        y.put(0, 0, 1, 2, 3);
        y.put(0, 0, 2, 5, 0);
        y.put(0, 1, 0, 4, 0);
        due.is("a table in a row sum", y.cell(0, 0, 2, 2), 7);
        due.is("a table in a column sum", y.cell(0, 1, 0, 2), 7);
        due.is("a table sum of its own table", y.cell(1, 0, 1, 2), 7);
        y.put(0, 2, 2, 1, -9);
        due.is("not of the outer one", y.cell(1, 0, 1, 2), 7);
        due.is("whose value is", y.table(0, 2), -2);
    }

    private static void signs(Due due) {
        NestedSums x = new NestedSums();
        int[] numbers = {0, 9, -9, 10, 99, -10, 100, 999, -100, -999};
        int[] widths = {1, 1, 2, 2, 2, 3, 3, 3, 4, 4};
        for (int k = 0; k < numbers.length; k++) {
            x.put(0, 0, 0, 1, numbers[k]);
            due.is("signs of " + numbers[k], x.cell(0, 0, 0, 5), widths[k]);
        }
        x.put(0, 0, 1, 1, -1);
        x.put(0, 2, 2, 6, 0);
        due.is("signs of the sum -1000", x.cell(0, 2, 2, 5), 5);
        x.put(0, 0, 0, 1, 1);
        due.is("signs of the sum 0", x.cell(0, 2, 2, 5), 1);
        x.put(0, 0, 0, 1, 999);
        x.put(0, 0, 1, 1, 1);
        due.is("signs of the sum 1000", x.cell(0, 2, 2, 5), 4);
        due.is("a sum is one high", x.cell(0, 2, 2, 6), 1);
    }

    private static void rulesOfCells(Due due) {
        NestedSums x = new NestedSums();
        x.rule(0, 1, 1, 1, 1);
        x.nest(0, 1, 1, 2, 2);
        x.rule(1, 1, 1, 1, 3);
        x.rule(1, 0, 0, 0, 2);
        x.rule(1, 0, 0, 1, 2);
        due.is("of an edge above", x.cell(0, 1, 1, 8), 2);
        due.is("the greatest one", x.cell(0, 1, 1, 9), 3);
        due.is("none below", x.cell(0, 1, 1, 10), 0);
        due.is("not of an edge within", x.cell(0, 1, 1, 11), 0);
        x.nest(1, 1, 0, 1, 1);
        x.rule(2, 0, 0, 3, 1);
        due.is("of a table in a table", x.cell(0, 1, 1, 11), 1);
        x.rule(0, 1, 1, 3, 2);
        due.is("its own if greater", x.cell(0, 1, 1, 11), 2);
        due.is("it does not go inside", x.cell(1, 1, 0, 11), 1);
        x.rule(0, 1, 0, 1, 3);
        due.is("nor that of a neighbour", x.cell(0, 1, 1, 11), 2);
    }

    private static void promise14Edge(Due due) {
        due.at("promise 14");
        NestedSums x = new NestedSums();
        x.begin(4, 4);
        x.rule(0, 0, 0, 1, 1);
        x.rule(0, 0, 1, 3, 2);
        due.is("the greater one", x.edge(0, 0, 0, 1), 2);
        due.is("from the other side", x.edge(0, 0, 1, 3), 2);
        x.rule(0, 0, 1, 3, 0);
        due.is("of one", x.edge(0, 0, 1, 3), 1);
        x.rule(0, 3, 3, 2, 3);
        due.is("at the border", x.edge(0, 3, 3, 2), 3);
        due.is("not on its other sides", x.edge(0, 3, 3, 1), 0);
        x.span(0, 1, 1, 2, 2);
        for (int side = 0; side < 4; side++) {
            x.rule(0, 1, 1, side, 2);
        }
        due.is("within a cell", x.edge(0, 1, 1, 1), 0);
        due.is("within a cell, of a square that is no cell", x.edge(0, 2, 2, 0), 0);
        due.is("above both squares", x.edge(0, 1, 2, 0), 2);
        due.is("below both squares", x.edge(0, 2, 1, 2), 2);
        due.is("to the right of both", x.edge(0, 2, 2, 1), 2);
        due.is("seen from the neighbour", x.edge(0, 2, 0, 1), 2);
        x.nest(0, 3, 0, 2, 1);
        x.rule(1, 1, 0, 1, 3);
        due.is("with that of a table within", x.edge(0, 3, 0, 1), 3);
        due.is("seen from the neighbour", x.edge(0, 3, 1, 3), 3);
        due.is("in the table, at its border", x.edge(1, 1, 0, 1), 3);
        due.is("in the table, the other one", x.edge(1, 0, 0, 1), 0);
        due.refuses(x, OUTSIDE, "no table", () -> x.edge(2, 0, 0, 0));
        due.refuses(x, OUTSIDE, "no row", () -> x.edge(0, 4, 0, 0));
        due.refuses(x, OUTSIDE, "no column, ahead of the side", () -> x.edge(1, 0, 1, 4));
        for (int wrong : new int[] {4, -1, LEAST, MOST}) {
            due.refuses(x, ARGUMENT, "side " + wrong, () -> x.edge(0, 0, 0, wrong));
        }
    }

    private static void promise15Table(Due due) {
        due.at("promise 15");
        NestedSums x = new NestedSums();
        x.begin(2, 3);
        x.put(0, 0, 0, 2, 4);
        x.put(0, 1, 1, 1, 12);
        x.nest(0, 1, 2, 2, 1);
        x.put(1, 0, 0, 1, 345);
        x.put(1, 1, 0, 2, 2);
        x.rule(1, 0, 0, 2, 1);
        int[] inner = {2, 1, 345, 3, 3, 0, 1, 0};
        int[] outer = {2, 3, 357, 9, 4, 0, 0, -1};
        for (int what = 0; what <= 7; what++) {
            due.is("inner " + what, x.table(1, what), inner[what]);
            due.is("outer " + what, x.table(0, what), outer[what]);
        }
        x.rule(1, 1, 0, 1, 2);
        due.is("a line at the border within", x.table(1, 5), 1);
        due.is("is one outside", x.table(0, 5), 1);
        due.is("widens the inner one", x.table(1, 3), 4);
        due.is("and the outer one by both", x.table(0, 3), 11);
        x.rule(0, 0, 2, 1, 1);
        due.is("one line for two edges", x.table(0, 5), 1);
        x.rule(0, 0, 0, 3, 1);
        x.rule(0, 1, 0, 1, 1);
        due.is("lines at the left and between", x.table(0, 5), 3);
        x.rule(0, 0, 1, 0, 1);
        x.rule(0, 1, 1, 2, 1);
        x.rule(0, 0, 1, 2, 1);
        due.is("lines between rows", x.table(0, 6), 3);
        due.is("the height with lines", x.table(0, 4), 7);
        due.refuses(x, OUTSIDE, "no table", () -> x.table(2, 0));
        due.refuses(x, OUTSIDE, "no table -1", () -> x.table(-1, 8));
        due.refuses(x, OUTSIDE, "no table", () -> x.table(MOST, 0));
        for (int wrong : new int[] {8, -1, LEAST, MOST}) {
            due.refuses(x, ARGUMENT, "what " + wrong, () -> x.table(1, wrong));
        }
        for (int table = 1; table < 4; table++) {
            x.put(table, 0, 0, 0, 0);
            x.nest(table, 0, 0, 1, 1);
        }
        x.rule(4, 0, 0, 1, 1);
        x.rule(4, 0, 0, 0, 1);
        due.is("the last table", x.table(4, 5) * 10 + x.table(4, 6), 11);
        due.is("its width and height", x.table(4, 3) * 10 + x.table(4, 4), 11);
        NestedSums y = new NestedSums();
        y.span(0, 0, 0, 1, 3);
        y.span(0, 1, 0, 1, 3);
        y.span(0, 2, 0, 1, 3);
        y.rule(0, 0, 0, 1, 1);
        due.is("a cell's right side is at its last column", y.table(0, 5), 1);
        due.is("told by the edge", y.edge(0, 0, 2, 1), 1);
    }

    private static void promise16Size(Due due) {
        due.at("promise 16");
        NestedSums x = new NestedSums();
        x.begin(3, 4);
        x.put(0, 0, 0, 2, 3);
        x.put(0, 1, 0, 2, 5);
        x.put(0, 2, 1, 1, -7);
        x.span(0, 0, 1, 1, 3);
        x.put(0, 0, 1, 2, 9);
        due.is("the greatest one", x.size(0, false, 0), 5);
        due.is("a cell with one column", x.size(0, false, 1), 2);
        due.is("none in the middle", x.size(0, false, 2), 0);
        due.is("the last one gets what is wanted", x.size(0, false, 3), 7);
        x.span(0, 1, 0, 1, 4);
        x.put(0, 1, 0, 2, 12);
        due.is("no more is wanted", x.size(0, false, 3), 7);
        due.is("the first one has less then", x.size(0, false, 0), 3);
        NestedSums y = new NestedSums();
        y.begin(2, 3);
        y.span(0, 0, 0, 1, 2);
        y.put(0, 0, 0, 2, 6);
        y.span(0, 1, 1, 1, 2);
        y.put(0, 1, 1, 2, 8);
        due.is("the upper one comes first", y.size(0, false, 1), 6);
        due.is("the lower one gets the rest", y.size(0, false, 2), 2);
        heightsOfRows(due);
        due.refuses(x, OUTSIDE, "no table", () -> x.size(1, true, 0));
        due.refuses(x, OUTSIDE, "no row", () -> x.size(0, true, 3));
        due.refuses(x, OUTSIDE, "no column", () -> x.size(0, false, 4));
        due.is("the last column", x.size(0, false, 3), 7);
        for (int wrong : new int[] {-1, LEAST, MOST}) {
            due.refuses(x, OUTSIDE, "row " + wrong, () -> x.size(0, true, wrong));
            due.refuses(x, OUTSIDE, "column " + wrong, () -> x.size(0, false, wrong));
            due.refuses(x, OUTSIDE, "table " + wrong, () -> x.size(wrong, false, 0));
        }
    }

    private static void heightsOfRows(Due due) {
        NestedSums x = new NestedSums();
        x.begin(4, 3);
        x.nest(0, 0, 0, 5, 1);
        for (int row = 0; row < 5; row++) {
            x.put(1, row, 0, 2, 1);
        }
        x.span(0, 0, 0, 2, 1);
        x.put(0, 0, 1, 1, 1);
        due.is("a cell with one row", x.size(0, true, 0), 1);
        due.is("the last one gets the rest", x.size(0, true, 1), 4);
        due.is("an empty row", x.size(0, true, 2), 0);
        x.rule(1, 0, 0, 0, 1);
        due.is("with a line in the table", x.size(0, true, 1), 5);
        due.is("heights in the table", x.size(1, true, 4), 1);
        NestedSums y = new NestedSums();
        y.nest(0, 0, 1, 4, 1);
        y.nest(0, 1, 0, 3, 1);
        for (int row = 0; row < 4; row++) {
            y.put(1, row, 0, 4, 0);
        }
        for (int row = 0; row < 3; row++) {
            y.put(2, row, 0, 1, 0);
        }
        y.span(0, 0, 1, 2, 1);
        y.span(0, 1, 0, 2, 1);
        due.is("by ascending rows, then columns", y.size(0, true, 1), 4);
        due.is("so no more is wanted", y.size(0, true, 2), 0);
    }

    private static NestedSums column(int rows) {
        NestedSums x = new NestedSums();
        x.begin(rows, 2);
        for (int row = 0; row < rows; row++) {
            x.put(0, row, 0, 1, row);
        }
        return x;
    }

    private static void pages(Due due, String call, NestedSums x, int... pages) {
        for (int row = 0; row < pages.length; row++) {
            due.is(call + ", page(" + row + ")", x.page(row), pages[row]);
        }
        due.is(call + ", pages", x.count(9), pages[pages.length - 1] + 1);
    }

    private static void promise17Page(Due due) {
        due.at("promise 17");
        NestedSums x = column(5);
        pages(due, "at most 10", x, 0, 0, 0, 0, 0);
        x.set(2);
        pages(due, "at most 2", x, 0, 0, 1, 1, 2);
        x.set(1);
        pages(due, "at most 1", x, 0, 1, 2, 3, 4);
        x.set(3);
        x.span(0, 2, 1, 2, 1);
        pages(due, "a cell holds rows 2 and 3", x, 0, 0, 1, 1, 1);
        x.set(1);
        pages(due, "a block that is too high", x, 0, 1, 2, 2, 3);
        x.span(0, 2, 1, 3, 1);
        x.set(2);
        pages(due, "a block of three", x, 0, 0, 1, 1, 1);
        x.set(4);
        pages(due, "a block of three, with all its rows", x, 0, 0, 1, 1, 1);
        x.set(5);
        pages(due, "a block of three, that fits", x, 0, 0, 0, 0, 0);
        x.begin(3, 2);
        x.put(0, 1, 0, 1, 1);
        x.put(0, 2, 0, 1, 1);
        x.set(1);
        pages(due, "a row without height", x, 0, 0, 1);
        x.put(0, 2, 0, 0, 0);
        x.span(0, 0, 1, 2, 1);
        x.span(0, 1, 0, 2, 1);
        x.put(0, 2, 1, 1, 1);
        pages(due, "blocks that overlap are one", x, 0, 0, 0);
        x.put(0, 0, 0, 1, 1);
        pages(due, "however high", x, 0, 0, 0);
        x.span(0, 0, 1, 1, 1);
        pages(due, "a cell in the first column holds rows", x, 0, 1, 1);
        NestedSums y = new NestedSums();
        y.set(2);
        y.nest(0, 0, 0, 3, 1);
        for (int row = 0; row < 3; row++) {
            y.put(1, row, 0, 1, 1);
        }
        y.put(0, 2, 0, 1, 1);
        pages(due, "the first block is too high", y, 0, 1, 1);
        y.rule(0, 0, 0, 0, 1);
        y.set(4);
        pages(due, "lines do not count", y, 0, 0, 0);
        due.refuses(y, OUTSIDE, "no row 3", () -> y.page(3));
        due.refuses(y, OUTSIDE, "no row -1", () -> y.page(-1));
        due.refuses(y, OUTSIDE, "least", () -> y.page(LEAST));
        due.refuses(y, OUTSIDE, "most", () -> y.page(MOST));
    }

    private static void promise18Count(Due due) {
        due.at("promise 18");
        NestedSums x = new NestedSums();
        x.nest(0, 0, 0, 2, 2);
        x.put(0, 0, 1, 1, 5);
        x.put(1, 0, 0, 1, 5);
        x.put(1, 0, 1, 2, 5);
        x.put(1, 1, 0, 4, 0);
        x.put(0, 2, 2, 4, 0);
        x.put(0, 0, 2, 5, 0);
        x.put(0, 2, 1, 6, 0);
        x.put(0, 2, 0, 6, 0);
        x.span(0, 1, 1, 1, 2);
        x.rule(1, 0, 0, 0, 1);
        x.rule(0, 1, 1, 0, 2);
        x.rule(0, 1, 1, 2, 2);
        x.set(1);
        int[] counts = {2, 12, 3, 2, 1, 1, 2, 1, 2, 2, 1 + 1 + 2 + 2, 1, 6};
        for (int what = 0; what <= 12; what++) {
            due.is("count(" + what + ")", x.count(what), counts[what]);
        }
        for (int wrong : new int[] {13, -1, LEAST, MOST}) {
            due.refuses(x, ARGUMENT, "count(" + wrong + ")", () -> x.count(wrong));
        }
        x.begin(2, 3);
        due.is("squares that are no cells", x.count(11), 0);
        x.nest(0, 0, 0, 4, 3);
        x.put(1, 0, 0, 6, 0);
        due.is("with a table", x.count(11), 0);
        due.is("cells", x.count(1), 18);
        x.put(0, 0, 0, 0, 0);
        due.is("the table is gone", x.count(11), 0);
        due.is("with its cells", x.count(1), 6);
        due.is("and its sum", x.count(8), 0);
        NestedSums y = new NestedSums();
        for (int row = 0; row < 3; row++) {
            for (int column = 0; column < 3; column++) {
                for (int side = 0; side < 4; side++) {
                    y.rule(0, row, column, side, 1);
                }
            }
        }
        due.is("all edges once", y.count(10), 24);
        y.span(0, 0, 0, 2, 2);
        due.is("but for those within a cell", y.count(10), 20);
        y.begin(5, 5);
        y.rule(0, 4, 4, 1, 1);
        y.rule(0, 4, 4, 2, 1);
        y.rule(0, 4, 3, 1, 1);
        y.rule(0, 4, 4, 3, 1);
        due.is("those of the last square", y.count(10), 3);
    }

    public static void main(String[] args) {
        Due due = new Due("LooksTest");
        promise13Cell(due);
        promise14Edge(due);
        promise15Table(due);
        promise16Size(due);
        promise17Page(due);
        promise18Count(due);
        due.end();
    }
}
