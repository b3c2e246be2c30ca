/** Promises 8 to 12: the buffer, its errors, its orders, and undo. */
public final class TextsTest {
    private static final Class<IllegalArgumentException> ARGUMENT = IllegalArgumentException.class;
    private static final Class<IllegalStateException> STATE = IllegalStateException.class;

    private TextsTest() {
    }

    private static void promise8Append(Due due) {
        due.at("promise 8");
        NestedSums x = new NestedSums();
        due.is("the least code", x.append(33), 1);
        due.is("the greatest code", x.append(126), 2);
        for (int wrong : new int[] {32, 127, 0, -1, Integer.MIN_VALUE, Integer.MAX_VALUE}) {
            due.refuses(x, ARGUMENT, "append(" + wrong + ")", () -> x.append(wrong));
        }
        for (int length = 3; length <= 60; length++) {
            due.is("length", x.append('a'), length);
        }
        due.refuses(x, STATE, "the 61st", () -> x.append('a'));
        due.refuses(x, ARGUMENT, "ahead of the state", () -> x.append(127));
        due.is("no state is saved", x.count(12), 0);
    }

    private static void promise9ClearBuffer(Due due) {
        due.at("promise 9");
        NestedSums x = new NestedSums();
        due.is("an empty one", x.clearBuffer(), 0);
        Due.type(x, "xyz");
        due.is("three", x.clearBuffer(), 3);
        due.is("then none", x.clearBuffer(), 0);
        due.is("the next is the first", x.append('0'), 1);
        due.is("no state is saved", x.count(12), 0);
    }

    private static void error(Due due, String text, int place) {
        NestedSums x = new NestedSums();
        Due.type(x, text);
        due.is("firstError of " + text, x.firstError(), place);
        due.is("the buffer of " + text, x.clearBuffer(), text.length());
    }

    private static void promise10FirstError(Due due) {
        due.at("promise 10");
        for (String good : new String[] {"", "0", "4", "0a", "4e", "0a1", "4e5", "0a1=", "0a1=-", "0a1=0", "0a1=-0",
                "0a1=9", "0a1=10", "0a1=999", "0a1=-999", "0a1w", "0a1w1", "0a1w9", "0a1w10", "0a1w11", "0a1w12",
                "0a1^", "0a1<", "0a1#", "0a1!", "0a1!;", "0a1!;4", "0a1=1;1b2w1;2c3^;3d4<;4e5#;0e1!", "0a1=-0;0a1=5"}) {
            error(due, good, good.length());
        }
        error(due, "5", 0);
        error(due, ";", 0);
        error(due, "/", 0);
        error(due, "0f", 1);
        error(due, "0A", 1);
        error(due, "0`", 1);
        error(due, "0a0", 2);
        error(due, "0a6", 2);
        error(due, "0a1;", 3);
        error(due, "0a1W1", 3);
        error(due, "0a15", 3);
        error(due, "0a1=;", 4);
        error(due, "0a1=w", 4);
        error(due, "0a1=--1", 5);
        error(due, "0a1=-;", 5);
        error(due, "0a1=00", 5);
        error(due, "0a1=05", 5);
        error(due, "0a1=-05", 6);
        error(due, "0a1=1000", 7);
        error(due, "0a1=-1000", 8);
        error(due, "0a1=1-", 5);
        error(due, "0a1w0", 4);
        error(due, "0a1w;", 4);
        error(due, "0a1w-1", 4);
        error(due, "0a1w13", 5);
        error(due, "0a1w20", 5);
        error(due, "0a1w120", 6);
        error(due, "0a1^1", 4);
        error(due, "0a1!!", 4);
        error(due, "0a1!;;", 5);
        error(due, "0a1!,0a1!", 4);
        error(due, "0a1!;0a1x;5", 8);
        for (String digits : new String[] {"0a1=", "0a1=-", "0a1=1", "0a1=12", "0a1w", "0a1w1"}) {
            error(due, digits + "/", digits.length());
            error(due, digits + ":", digits.length());
        }
    }

    private static void refused(Due due, String text) {
        NestedSums x = new NestedSums();
        Due.type(x, text);
        due.refuses(x, ARGUMENT, "run of " + text, x::run);
        due.is("the buffer stays: " + text, x.clearBuffer(), text.length());
        due.is("no state is saved: " + text, x.count(12), 0);
    }

    private static void promise11Run(Due due) {
        due.at("promise 11");
        for (String wrong : new String[] {"", "0", "0a", "0a1", "0a1=", "0a1=-", "0a1w", "0a1!;", "0a1!;0a1", ";0a1!",
                "0a1=1000", "0a1w13", "0a1=01", "x"}) {
            refused(due, wrong);
        }
        NestedSums x = new NestedSums();
        x.nest(0, 0, 0, 2, 2);
        Due.type(x, "0b1=-12;0c2w12;1a2=999;1b1^;0a3<;0c3#");
        due.is("run", x.run(), 6);
        due.is("one state more", x.count(12), 2);
        due.is("the buffer is clear", x.clearBuffer(), 0);
        due.is("=-12 in column b, row 1", x.cell(0, 0, 1, 1), -12);
        due.is("w12", x.cell(0, 1, 2, 5), 12);
        due.is("in the table 1", x.cell(1, 1, 0, 1), 999);
        due.is("^", x.cell(1, 0, 1, 0), 4);
        due.is("<", x.cell(0, 2, 0, 0), 5);
        due.is("#", x.cell(0, 2, 2, 0), 6);
        due.is("undone as one call", x.undo(), 1);
        due.is("all of them", x.count(3) + x.count(4) + x.count(6) + x.count(7) + x.count(8), 0);
        due.is("the buffer is not undone", x.clearBuffer(), 0);
        runsUpToAnException(due);
    }

    private static void runsUpToAnException(Due due) {
        NestedSums x = new NestedSums();
        Due.type(x, "0a1=1;0d1=2;0b1=3");
        due.is("up to a square that is not there", x.run(), 1);
        due.is("no order behind it", x.table(0, 2), 1);
        due.is("the buffer is clear", x.clearBuffer(), 0);
        Due.type(x, "4a1=1");
        due.is("none is done", x.run(), 0);
        due.is("a state is saved all the same", x.count(12), 2);
        due.is("the buffer is clear", x.clearBuffer(), 0);
        x.span(0, 1, 1, 2, 2);
        Due.type(x, "0a2!;0c3!;0a3=1");
        due.is("up to a square that is no cell", x.run(), 1);
        x.nest(0, 0, 1, 1, 1);
        x.nest(1, 0, 0, 1, 1);
        Due.type(x, "2a1=5;0b1!");
        due.is("up to a table that is not the greatest", x.run(), 1);
        Due.type(x, "1a1=7;0b1=8;1a1=9");
        due.is("tables go by orders", x.run(), 2);
        due.is("tables", x.count(0), 1);
        due.is("the value", x.table(0, 2), 9);
        x.undo();
        due.is("both tables are back", x.count(0), 3);
        due.is("with the number", x.table(2, 2), 5);
        NestedSums y = new NestedSums();
        Due.type(y, "0a1=1;0a1=2;0a1=3;0a1=4;0a1=5;0a1=6;0a1=7;0a1=8;0a1=9;0b1#");
        due.is("sixty signs", y.run(), 10);
        due.is("the last one counts", y.cell(0, 0, 1, 2), 9);
    }

    private static void promise12Undo(Due due) {
        due.at("promise 12");
        NestedSums x = new NestedSums();
        due.refuses(x, STATE, "none is saved", x::undo);
        for (int number = 1; number <= 8; number++) {
            x.put(0, 0, 0, 1, number);
            due.is("saved states", x.count(12), Math.min(number, 6));
        }
        for (int left = 5; left >= 0; left--) {
            due.is("undo", x.undo(), left);
            due.is("the number before", x.cell(0, 0, 0, 1), left + 2);
        }
        due.refuses(x, STATE, "the oldest ones are dropped", x::undo);
        x.put(0, 0, 1, 2, 5);
        x.rule(0, 0, 1, 2, 3);
        x.span(0, 0, 1, 2, 2);
        x.nest(0, 2, 0, 4, 4);
        x.set(33);
        Due.type(x, "0a1");
        long late = x.digest();
        x.begin(1, 1);
        due.is("undo of begin", x.undo(), 5);
        due.is("all is as before", x.digest(), late);
        due.is("undo of set", x.undo(), 4);
        due.is("undo of nest", x.undo(), 3);
        due.is("tables", x.count(0), 1);
        due.is("undo of span", x.undo(), 2);
        due.is("squares that are no cells", x.count(11), 0);
        due.is("undo of rule", x.undo(), 1);
        due.is("edges with a rule", x.count(10), 0);
        due.is("undo of put", x.undo(), 0);
        due.is("words", x.count(4), 0);
        due.is("the setting", x.set(1), 10);
        due.is("the buffer stays", x.clearBuffer(), 3);
        undoOfPlaces(due);
    }

    /** A table with the same number comes to another cell, and then back. */
    private static void undoOfPlaces(Due due) {
        NestedSums x = new NestedSums();
        x.nest(0, 0, 0, 2, 2);
        x.put(0, 0, 1, 5, 0);
        x.nest(1, 1, 1, 1, 1);
        due.is("the table around it", x.table(2, 7), 1);
        x.put(1, 1, 1, 0, 0);
        x.nest(0, 2, 2, 1, 1);
        due.is("another one", x.table(2, 7), 0);
        due.is("counted by none", x.countedBy(2, 0, 0), 0);
        x.undo();
        x.undo();
        due.is("that one again", x.table(2, 7), 1);
        due.is("counted by the row sum again", x.countedBy(2, 0, 0), 1);
    }

    public static void main(String[] args) {
        Due due = new Due("TextsTest");
        promise8Append(due);
        promise9ClearBuffer(due);
        promise10FirstError(due);
        promise11Run(due);
        promise12Undo(due);
        due.end();
    }
}
