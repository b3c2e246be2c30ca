/** Promises 1 to 7: what is built, put, spanned, ruled and set. */
public final class TablesTest {
    private static final Class<IndexOutOfBoundsException> OUTSIDE = IndexOutOfBoundsException.class;
    private static final Class<IllegalArgumentException> ARGUMENT = IllegalArgumentException.class;
    private static final Class<IllegalStateException> STATE = IllegalStateException.class;
    private static final int LEAST = Integer.MIN_VALUE;
    private static final int MOST = Integer.MAX_VALUE;

    private TablesTest() {
    }

    private static void promise1NewObject(Due due) {
        due.at("promise 1");
        NestedSums x = new NestedSums();
        due.is("NONE", NestedSums.NONE, -1);
        due.is("tables", x.count(0), 1);
        due.is("rows", x.table(0, 0), 3);
        due.is("columns", x.table(0, 1), 3);
        due.is("cells", x.count(1), 9);
        due.is("empty cells", x.count(2), 9);
        due.is("saved states", x.count(12), 0);
        due.is("buffer", x.clearBuffer(), 0);
        due.is("setting 0", x.set(5), 10);
        due.is("width", x.table(0, 3), 0);
        due.is("height", x.table(0, 4), 0);
    }

    private static void promise2Begin(Due due) {
        due.at("promise 2");
        NestedSums x = new NestedSums();
        x.set(7);
        x.put(0, 1, 1, 1, 5);
        x.rule(0, 0, 0, 0, 3);
        x.nest(0, 0, 0, 2, 2);
        Due.type(x, "0a");
        due.is("begin(5, 4)", x.begin(5, 4), 20);
        due.is("tables", x.count(0), 1);
        due.is("empty cells", x.count(2), 20);
        due.is("rows", x.table(0, 0), 5);
        due.is("columns", x.table(0, 1), 4);
        due.is("edges with a rule", x.count(10), 0);
        due.is("saved states", x.count(12), 5);
        due.is("the setting stays", x.set(8), 7);
        due.is("the buffer stays", x.clearBuffer(), 2);
        due.is("begin(1, 1)", x.begin(1, 1), 1);
        due.is("begin(5, 5)", x.begin(5, 5), 25);
        due.is("a cell in the last square", x.cell(0, 4, 4, 0), 0);
        for (int wrong : new int[] {0, 6, -1, LEAST, MOST}) {
            due.refuses(x, ARGUMENT, "begin(" + wrong + ", 1)", () -> x.begin(wrong, 1));
            due.refuses(x, ARGUMENT, "begin(1, " + wrong + ")", () -> x.begin(1, wrong));
        }
        x.undo();
        due.is("undo brings 1 row", x.table(0, 0), 1);
        x.undo();
        due.is("undo brings 5 rows", x.table(0, 0), 5);
        due.is("undo brings 4 columns", x.table(0, 1), 4);
    }

    private static void promise3Nest(Due due) {
        due.at("promise 3");
        NestedSums x = new NestedSums();
        due.is("the first table", x.nest(0, 1, 2, 2, 5), 1);
        due.is("its rows", x.table(1, 0), 2);
        due.is("its columns", x.table(1, 1), 5);
        due.is("the table around it", x.table(1, 7), 0);
        due.is("the kind of the cell", x.cell(0, 1, 2, 0), 3);
        due.is("the table in the cell", x.cell(0, 1, 2, 7), 1);
        due.is("saved states", x.count(12), 1);
        due.is("in a table", x.nest(1, 1, 4, 1, 1), 2);
        due.is("the table around that", x.table(2, 7), 1);
        due.is("deeper", x.nest(2, 0, 0, 5, 1), 3);
        due.is("beside", x.nest(0, 0, 0, 1, 1), 4);
        due.is("cells", x.count(1), 9 + 10 + 1 + 5 + 1);
        due.refuses(x, STATE, "a sixth table", () -> x.nest(0, 2, 2, 1, 1));
        due.refuses(x, ARGUMENT, "rows ahead of the state", () -> x.nest(0, 2, 2, 0, 1));
        x.undo();
        due.is("tables after undo", x.count(0), 4);
        due.is("the cell after undo", x.cell(0, 0, 0, 0), 0);
        NestedSums y = new NestedSums();
        y.put(0, 0, 0, 1, 0);
        y.put(0, 0, 1, 4, 0);
        y.span(0, 1, 1, 2, 2);
        due.refuses(y, STATE, "a number is there", () -> y.nest(0, 0, 0, 1, 1));
        due.refuses(y, STATE, "a sum is there", () -> y.nest(0, 0, 1, 1, 1));
        due.refuses(y, STATE, "no cell", () -> y.nest(0, 2, 2, 1, 1));
        due.refuses(y, OUTSIDE, "no table 1", () -> y.nest(1, 0, 0, 1, 1));
        due.refuses(y, OUTSIDE, "no table -1", () -> y.nest(-1, 0, 0, 1, 1));
        due.refuses(y, OUTSIDE, "no row 3", () -> y.nest(0, 3, 0, 1, 1));
        due.refuses(y, OUTSIDE, "no column -1", () -> y.nest(0, 0, -1, 0, 1));
        for (int wrong : new int[] {0, 6, LEAST, MOST}) {
            due.refuses(y, ARGUMENT, "rows " + wrong, () -> y.nest(0, 0, 0, wrong, 1));
            due.refuses(y, ARGUMENT, "columns " + wrong, () -> y.nest(0, 2, 2, 1, wrong));
        }
        due.is("in a cell with more squares", y.nest(0, 1, 1, 5, 5), 1);
    }

    private static void promise4Put(Due due) {
        due.at("promise 4");
        NestedSums x = new NestedSums();
        due.is("a number", x.put(0, 0, 0, 1, -999), 0);
        due.is("another", x.put(0, 0, 0, 1, 999), 1);
        due.is("its value", x.cell(0, 0, 0, 1), 999);
        due.is("a word", x.put(0, 0, 0, 2, 12), 1);
        due.is("its width", x.cell(0, 0, 0, 5), 12);
        due.is("its value", x.cell(0, 0, 0, 1), 0);
        due.is("a column sum, whatever the number", x.put(0, 0, 0, 4, MOST), 2);
        due.is("a row sum", x.put(0, 0, 0, 5, LEAST), 4);
        due.is("a table sum", x.put(0, 0, 0, 6, 1000), 5);
        due.is("saved states", x.count(12), 6);
        due.is("empty", x.put(0, 0, 0, 0, 5000), 6);
        due.is("it is empty", x.cell(0, 0, 0, 0), 0);
        x.rule(0, 0, 0, 1, 2);
        x.put(0, 0, 0, 1, 4);
        due.is("the rule stays", x.cell(0, 0, 0, 9), 2);
        wrongPuts(due);
        tablesInPlace(due);
    }

    private static void wrongPuts(Due due) {
        NestedSums x = new NestedSums();
        x.span(0, 0, 0, 2, 2);
        for (int kind : new int[] {3, 7, -1, LEAST, MOST}) {
            due.refuses(x, ARGUMENT, "kind " + kind, () -> x.put(0, 0, 0, kind, 1));
            due.refuses(x, ARGUMENT, "kind " + kind + " ahead of the state", () -> x.put(0, 1, 1, kind, 1));
        }
        for (int number : new int[] {1000, -1000, LEAST, MOST}) {
            due.refuses(x, ARGUMENT, "number " + number, () -> x.put(0, 0, 0, 1, number));
        }
        for (int width : new int[] {0, 13, -1, LEAST, MOST}) {
            due.refuses(x, ARGUMENT, "width " + width, () -> x.put(0, 0, 0, 2, width));
        }
        due.refuses(x, STATE, "no cell", () -> x.put(0, 0, 1, 1, 1));
        due.refuses(x, STATE, "no cell", () -> x.put(0, 1, 1, 0, 1));
        due.refuses(x, OUTSIDE, "no table", () -> x.put(1, 0, 0, 1, 1));
        due.refuses(x, OUTSIDE, "no row", () -> x.put(0, 3, 0, 9, 1));
        due.refuses(x, OUTSIDE, "no column", () -> x.put(0, 0, MOST, 1, 1));
        due.refuses(x, OUTSIDE, "least", () -> x.put(LEAST, LEAST, LEAST, 1, 1));
    }

    private static void tablesInPlace(Due due) {
        NestedSums x = new NestedSums();
        x.nest(0, 0, 0, 2, 2);
        x.nest(0, 0, 1, 2, 2);
        x.put(2, 0, 0, 1, 5);
        due.refuses(x, STATE, "not the greatest table", () -> x.put(0, 0, 0, 0, 0));
        due.is("the greatest one goes", x.put(0, 0, 1, 1, 8), 3);
        due.is("tables", x.count(0), 2);
        due.is("no table in it", x.cell(0, 0, 1, 7), -1);
        due.refuses(x, OUTSIDE, "it is gone", () -> x.table(2, 0));
        due.is("then the next goes", x.put(0, 0, 0, 0, 0), 3);
        due.is("tables", x.count(0), 1);
        x.undo();
        x.undo();
        due.is("both are back", x.count(0), 3);
        due.is("with what is in them", x.table(2, 2), 5);
        x.put(0, 0, 1, 0, 0);
        due.is("a new one", x.nest(1, 0, 0, 1, 1), 2);
        due.is("is empty", x.table(2, 2), 0);
        due.is("and elsewhere", x.table(2, 7), 1);
        due.refuses(x, STATE, "the outer one stays", () -> x.put(0, 0, 0, 0, 0));
        NestedSums y = new NestedSums();
        y.rule(0, 1, 1, 0, 1);
        y.nest(0, 1, 1, 1, 1);
        y.rule(1, 0, 0, 0, 3);
        due.is("the table's rule", y.cell(0, 1, 1, 8), 3);
        y.put(0, 1, 1, 0, 0);
        due.is("its own rule again", y.cell(0, 1, 1, 8), 1);
    }

    private static void promise5Span(Due due) {
        due.at("promise 5");
        NestedSums x = new NestedSums();
        x.begin(5, 5);
        x.put(0, 1, 1, 1, 7);
        x.rule(0, 1, 1, 0, 2);
        x.rule(0, 2, 2, 0, 3);
        due.is("span", x.span(0, 1, 1, 3, 2), 6);
        due.is("rows", x.cell(0, 1, 1, 3), 3);
        due.is("columns", x.cell(0, 1, 1, 4), 2);
        due.is("its content stays", x.cell(0, 1, 1, 1), 7);
        due.is("its rule stays", x.cell(0, 1, 1, 8), 2);
        due.is("cells", x.count(1), 20);
        due.is("squares that are no cells", x.count(11), 5);
        due.is("a covered square", x.cell(0, 3, 2, 0), -1);
        due.is("with other squares", x.span(0, 1, 1, 2, 4), 8);
        due.is("left squares are cells", x.cell(0, 3, 1, 0), 0);
        due.is("with one row", x.cell(0, 3, 2, 3), 1);
        due.is("fewer", x.span(0, 1, 1, 1, 1), 1);
        due.is("cells", x.count(1), 25);
        due.is("without rules", x.cell(0, 2, 2, 8), 0);
        due.is("the same again", x.span(0, 1, 1, 1, 1), 1);
        due.is("saved states", x.count(12), 6);
        due.is("all", x.begin(5, 5) + x.span(0, 0, 0, 5, 5), 50);
        due.is("one cell", x.count(1), 1);
        x.undo();
        due.is("undone", x.count(1), 25);
        wrongSpans(due);
    }

    private static void wrongSpans(Due due) {
        NestedSums x = new NestedSums();
        x.put(0, 0, 2, 2, 3);
        x.span(0, 1, 1, 2, 1);
        due.refuses(x, STATE, "a word is there", () -> x.span(0, 0, 0, 1, 3));
        due.refuses(x, STATE, "a cell with more squares is there", () -> x.span(0, 1, 0, 1, 2));
        due.refuses(x, STATE, "also by its other square", () -> x.span(0, 2, 0, 1, 2));
        due.refuses(x, STATE, "no cell", () -> x.span(0, 2, 1, 1, 1));
        due.refuses(x, OUTSIDE, "too low", () -> x.span(0, 1, 1, 3, 1));
        due.refuses(x, OUTSIDE, "too wide, ahead of the state", () -> x.span(0, 2, 1, 1, 3));
        due.refuses(x, OUTSIDE, "5 by 5", () -> x.span(0, 0, 0, 5, 5));
        due.refuses(x, OUTSIDE, "no table", () -> x.span(1, 0, 0, 1, 1));
        due.refuses(x, OUTSIDE, "no square, ahead of the argument", () -> x.span(0, 3, 0, 0, 0));
        due.refuses(x, ARGUMENT, "the other one is no argument", () -> x.span(0, 2, 2, 0, 5));
        due.refuses(x, ARGUMENT, "the other one is no argument", () -> x.span(0, 2, 2, 5, 6));
        for (int wrong : new int[] {0, 6, -1, LEAST, MOST}) {
            due.refuses(x, ARGUMENT, "rows " + wrong, () -> x.span(0, 0, 0, wrong, 1));
            due.refuses(x, ARGUMENT, "columns " + wrong, () -> x.span(0, 2, 1, 1, wrong));
        }
        x.put(0, 1, 0, 6, 0);
        due.refuses(x, STATE, "a sum is below", () -> x.span(0, 0, 0, 2, 1));
        x.put(0, 1, 0, 0, 0);
        x.span(0, 0, 0, 1, 2);
        due.refuses(x, STATE, "an empty cell with more columns is there", () -> x.span(0, 1, 0, 1, 2));
        x.begin(3, 3);
        x.span(0, 1, 1, 1, 2);
        due.refuses(x, STATE, "an empty cell with more columns is there", () -> x.span(0, 0, 1, 2, 2));
        due.refuses(x, STATE, "an empty cell with more columns is there, in part", () -> x.span(0, 0, 1, 2, 1));
        NestedSums y = new NestedSums();
        y.nest(0, 0, 0, 2, 2);
        y.nest(0, 1, 1, 1, 1);
        due.is("a cell with a table", y.span(0, 0, 0, 1, 3), 3);
        due.is("keeps it", y.cell(0, 0, 0, 7), 1);
        due.refuses(y, STATE, "a table is there", () -> y.span(0, 1, 0, 1, 2));
        y.rule(0, 2, 0, 1, 1);
        due.is("an empty cell with a rule", y.span(0, 1, 0, 2, 1), 2);
        due.is("is gone with it", y.cell(0, 1, 0, 9), 0);
    }

    private static void promise6Rule(Due due) {
        due.at("promise 6");
        NestedSums x = new NestedSums();
        for (int side = 0; side < 4; side++) {
            due.is("the first", x.rule(0, 1, 1, side, 3), 0);
            due.is("the second", x.rule(0, 1, 1, side, side), 3);
            due.is("told by cell", x.cell(0, 1, 1, 8 + side), side);
        }
        due.is("saved states", x.count(12), 6);
        x.undo();
        due.is("undone", x.cell(0, 1, 1, 11), 3);
        x.nest(0, 1, 1, 1, 1);
        x.rule(1, 0, 0, 0, 2);
        due.is("with that of the table", x.cell(0, 1, 1, 8), 2);
        due.is("its own", x.rule(0, 1, 1, 0, 0), 0);
        x.span(0, 0, 0, 1, 2);
        due.refuses(x, STATE, "no cell", () -> x.rule(0, 0, 1, 0, 0));
        due.refuses(x, ARGUMENT, "ahead of the state", () -> x.rule(0, 0, 1, 4, 0));
        due.refuses(x, OUTSIDE, "no table", () -> x.rule(2, 0, 0, 0, 0));
        due.refuses(x, OUTSIDE, "no square in that table", () -> x.rule(1, 0, 1, 9, 9));
        for (int wrong : new int[] {4, -1, LEAST, MOST}) {
            due.refuses(x, ARGUMENT, "side " + wrong, () -> x.rule(0, 0, 0, wrong, 0));
            due.refuses(x, ARGUMENT, "rule " + wrong, () -> x.rule(0, 0, 0, 0, wrong));
        }
    }

    private static void promise7Set(Due due) {
        due.at("promise 7");
        NestedSums x = new NestedSums();
        due.is("at first", x.set(60), 10);
        due.is("then", x.set(1), 60);
        due.is("the same is undoable too", x.set(1), 1);
        due.is("saved states", x.count(12), 3);
        for (int wrong : new int[] {0, 61, -1, LEAST, MOST}) {
            due.refuses(x, ARGUMENT, "set(" + wrong + ")", () -> x.set(wrong));
        }
        x.undo();
        x.undo();
        due.is("undone", x.set(5), 60);
    }

    public static void main(String[] args) {
        Due due = new Due("TablesTest");
        promise1NewObject(due);
        promise2Begin(due);
        promise3Nest(due);
        promise4Put(due);
        promise5Span(due);
        promise6Rule(due);
        promise7Set(due);
        due.end();
    }
}
