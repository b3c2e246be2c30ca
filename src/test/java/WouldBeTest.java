/** Promises 19 to 23: what a number would bring, who counts a cell, heights of pages, the share, and the digest. */
public final class WouldBeTest {
    private static final Class<IndexOutOfBoundsException> OUTSIDE = IndexOutOfBoundsException.class;
    private static final Class<IllegalArgumentException> ARGUMENT = IllegalArgumentException.class;
    private static final int LEAST = Integer.MIN_VALUE;
    private static final int MOST = Integer.MAX_VALUE;

    private WouldBeTest() {
    }

    private static void promise19IfPut(Due due) {
        due.at("promise 19");
        NestedSums x = new NestedSums();
        x.put(0, 0, 0, 1, 5);
        x.put(0, 0, 1, 2, 12);
        x.put(0, 1, 0, 4, 0);
        x.put(0, 0, 2, 5, 0);
        x.put(0, 2, 2, 6, 0);
        x.nest(0, 1, 1, 1, 2);
        x.put(1, 0, 0, 6, 0);
        long before = x.digest();
        due.is("the value", x.ifPut(0, 0, 0, -999, 0), -999);
        due.is("the cell stays", x.cell(0, 0, 0, 1), 5);
        due.is("the sum stays", x.cell(0, 2, 2, 2), 5);
        due.is("nothing is changed", x.digest(), before);
        due.is("no state is saved", x.count(12), 6);
        due.is("all three sums change", x.ifPut(0, 0, 0, 6, 1), 3);
        due.is("none changes", x.ifPut(0, 0, 0, 5, 1), 0);
        due.is("the width", x.ifPut(0, 0, 0, -999, 2), 4 + 12 + 4);
        due.is("in place of a word", x.ifPut(0, 0, 1, 7, 0), 12);
        due.is("sums that would count it", x.ifPut(0, 0, 1, 7, 1), 2);
        due.is("without the word", x.ifPut(0, 0, 1, 7, 2), 1 + 1 + 2);
        due.is("in a table within", x.ifPut(1, 0, 1, 40, 0), 45);
        due.is("sums of all tables", x.ifPut(1, 0, 1, 40, 1), 2);
        due.is("0 in an empty cell", x.ifPut(1, 0, 1, 0, 1), 0);
        due.is("0 has a width", x.ifPut(0, 2, 0, 0, 2), 1 + 12 + 1);
        due.is("in place of a sum, which is not told", x.ifPut(0, 2, 2, 1, 1), 0);
        due.is("its value", x.ifPut(0, 2, 2, 1, 0), 6);
        x.put(0, 2, 0, 4, 0);
        due.is("a column sum below then starts above", x.ifPut(0, 1, 0, 3, 1), 2);
        x.undo();
        x.put(0, 0, 0, 6, 0);
        due.is("the sum in the first cell", x.ifPut(0, 0, 1, 7, 1), 3);
        x.undo();
        x.span(0, 2, 0, 1, 2);
        for (int what = 0; what <= 2; what++) {
            due.is("no cell", x.ifPut(0, 2, 1, 1, what), -1);
            due.is("a table", x.ifPut(0, 1, 1, 1, what), -1);
        }
        due.refuses(x, OUTSIDE, "no table", () -> x.ifPut(2, 0, 0, 0, 0));
        due.refuses(x, OUTSIDE, "no square, ahead of the rest", () -> x.ifPut(0, 0, 3, 1000, 3));
        for (int wrong : new int[] {1000, -1000, LEAST, MOST}) {
            due.refuses(x, ARGUMENT, "number " + wrong, () -> x.ifPut(0, 0, 0, wrong, 0));
            due.refuses(x, ARGUMENT, "what " + wrong, () -> x.ifPut(0, 0, 0, 0, wrong));
        }
        due.refuses(x, ARGUMENT, "what 3", () -> x.ifPut(0, 0, 0, 0, 3));
        due.refuses(x, ARGUMENT, "what -1 of no cell", () -> x.ifPut(0, 2, 1, 0, -1));
    }

    private static void promise20CountedBy(Due due) {
        due.at("promise 20");
        NestedSums x = new NestedSums();
        x.nest(0, 0, 0, 3, 2);
        x.nest(1, 0, 0, 2, 1);
        x.put(0, 0, 1, 5, 0);
        x.put(0, 0, 2, 5, 0);
        x.put(0, 1, 0, 4, 0);
        x.put(0, 2, 0, 4, 0);
        x.put(0, 2, 2, 6, 0);
        due.is("one row sum, one column sum, one table sum", x.countedBy(0, 0, 0), 3);
        due.is("an empty cell", x.countedBy(0, 1, 1), 1);
        due.is("a sum", x.countedBy(0, 0, 1), 0);
        due.is("a table sum", x.countedBy(0, 2, 2), 0);
        due.is("in a table without sums", x.countedBy(1, 0, 1), 3);
        x.put(1, 0, 1, 5, 0);
        x.put(1, 2, 1, 6, 0);
        due.is("the cell with the table 2", x.countedBy(1, 0, 0), 2 + 3);
        x.put(2, 1, 0, 4, 0);
        x.put(2, 0, 0, 2, 4);
        due.is("a word in the table 2", x.countedBy(2, 0, 0), 1 + 2 + 3);
        due.is("a sum in the table 2", x.countedBy(2, 1, 0), 0);
        x.span(0, 1, 1, 1, 2);
        due.is("no cell", x.countedBy(0, 1, 2), -1);
        NestedSums deep = new NestedSums();
        deep.put(0, 0, 1, 5, 0);
        for (int table = 0; table < 4; table++) {
            deep.nest(table, 0, 0, 1, 1);
        }
        due.is("four tables within", deep.countedBy(4, 0, 0), 1);
        NestedSums y = new NestedSums();
        y.begin(3, 4);
        y.span(0, 0, 0, 1, 3);
        y.put(0, 1, 0, 4, 0);
        y.put(0, 1, 1, 4, 0);
        y.put(0, 2, 2, 4, 0);
        y.put(0, 2, 1, 4, 0);
        due.is("of three columns", y.countedBy(0, 0, 0), 3);
        due.refuses(x, OUTSIDE, "no table", () -> x.countedBy(3, 0, 0));
        due.refuses(x, OUTSIDE, "no row", () -> x.countedBy(2, 2, 0));
        due.refuses(x, OUTSIDE, "no column", () -> x.countedBy(0, 0, -1));
        due.refuses(x, OUTSIDE, "least", () -> x.countedBy(LEAST, MOST, LEAST));
    }

    private static NestedSums tower(int rowsOfTables) {
        NestedSums x = new NestedSums();
        x.begin(5, 1);
        for (int table = 1; table <= rowsOfTables; table++) {
            x.nest(0, table - 1, 0, 5, 1);
            for (int row = 0; row < 5; row++) {
                x.put(table, row, 0, 1, 1);
            }
        }
        return x;
    }

    /** Four tables in one another, in the first row, with all lines: as high as a table can be. */
    private static NestedSums chain() {
        NestedSums x = new NestedSums();
        x.begin(5, 1);
        for (int table = 0; table < 5; table++) {
            if (table < 4) {
                x.nest(table, 0, 0, 5, 1);
            }
            for (int row = 0; row < 5; row++) {
                if (row > 0 || table == 4) {
                    x.put(table, row, 0, 1, 1);
                }
                x.rule(table, row, 0, 0, 1);
                x.rule(table, row, 0, 2, 1);
            }
        }
        return x;
    }

    private static void promise21HeightFor(Due due) {
        due.at("promise 21");
        NestedSums x = new NestedSums();
        due.is("no heights", x.heightFor(1), 1);
        NestedSums five = tower(4);
        int[] least = {20, 10, 10, 5, 1};
        for (int pages = 1; pages <= 5; pages++) {
            due.is("heightFor(" + pages + ")", five.heightFor(pages), least[pages - 1]);
        }
        five.set(60);
        due.is("the setting does not matter", five.heightFor(4), 5);
        five.span(0, 3, 0, 2, 1);
        five.put(0, 3, 0, 1, 1);
        due.is("the last one low", five.heightFor(1), 16);
        due.is("for two", five.heightFor(2), 10);
        NestedSums high = chain();
        due.is("the first row", high.size(0, true, 0), 41);
        due.is("with its lines", high.table(0, 4), 51);
        due.is("all on one page", high.heightFor(1), 45);
        due.is("the first row is too high for its page", high.heightFor(2), 4);
        due.is("three pages", high.heightFor(3), 2);
        due.is("four pages", high.heightFor(4), 2);
        due.is("five pages", high.heightFor(5), 1);
        NestedSums block = new NestedSums();
        block.begin(5, 2);
        block.nest(0, 0, 0, 5, 1);
        block.put(1, 0, 0, 1, 1);
        block.put(1, 1, 0, 1, 1);
        block.span(0, 0, 1, 5, 1);
        due.is("one block of all", block.heightFor(1), 1);
        for (int wrong : new int[] {0, 6, -1, LEAST, MOST}) {
            due.refuses(x, ARGUMENT, "heightFor(" + wrong + ")", () -> x.heightFor(wrong));
        }
    }

    private static void promise22FilledShare(Due due) {
        due.at("promise 22");
        NestedSums x = new NestedSums();
        due.sameDouble("none", x.filledShare(), 0.0);
        x.put(0, 0, 0, 1, 0);
        due.sameDouble("a number 0 is something", x.filledShare(), 1.0 / 9);
        x.put(0, 0, 1, 2, 1);
        x.put(0, 0, 2, 4, 0);
        x.put(0, 1, 0, 5, 0);
        x.put(0, 1, 1, 6, 0);
        due.sameDouble("words and sums", x.filledShare(), 5.0 / 9);
        x.nest(0, 1, 2, 2, 2);
        due.sameDouble("a table, and its cells", x.filledShare(), 6.0 / 13);
        x.span(0, 2, 0, 1, 3);
        due.sameDouble("of cells, not of squares", x.filledShare(), 6.0 / 11);
        x.put(0, 2, 0, 1, 1);
        for (int square = 0; square < 4; square++) {
            x.put(1, square / 2, square % 2, 2, 3);
        }
        due.sameDouble("all", x.filledShare(), 1.0);
    }

    private static void promise23Digest(Due due) {
        due.at("promise 23");
        NestedSums x = new NestedSums();
        due.is("a new object", x.digest(), DigestList.told(x, 10, ""));
        NestedSums y = new NestedSums();
        y.span(0, 0, 0, 2, 2);
        y.nest(0, 0, 0, 2, 3);
        y.put(1, 0, 0, 1, 12);
        y.put(1, 1, 0, 4, 0);
        y.rule(1, 0, 0, 3, 2);
        y.put(0, 2, 1, 4, 0);
        y.set(3);
        Due.type(y, "0a1=1;~");
        due.is("with a table", y.digest(), DigestList.told(y, 3, "0a1=1;~"));
        due.is("told twice", y.digest(), y.digest());
        NestedSums sums = new NestedSums();
        sums.put(0, 0, 0, 6, 0);
        sums.put(0, 0, 1, 6, 0);
        sums.put(0, 2, 2, 1, 3);
        due.is("a sum changes that is not the first cell", sums.ifPut(0, 0, 0, 77, 1), 1);
        due.is("sums in the first cells", sums.digest(), DigestList.told(sums, 10, ""));
        NestedSums heights = tower(3);
        due.is("other heights for one and two pages", heights.digest(), DigestList.told(heights, 10, ""));
    }

    public static void main(String[] args) {
        Due due = new Due("WouldBeTest");
        promise19IfPut(due);
        promise20CountedBy(due);
        promise21HeightFor(due);
        promise22FilledShare(due);
        promise23Digest(due);
        due.end();
    }
}
