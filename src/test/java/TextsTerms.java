/** Tests of the terms that hold for all promises: input text, undo, exceptions, and calls that change nothing. */
final class TextsTerms {
    private TextsTerms() {
    }

    static void all(Sentences s) {
        s.promise(0);
        buffer(s);
        orders(s);
        contents(s);
        errors(s);
        undo(s);
        sixStates(s);
        changesNothing(s);
        firstException(s);
        looks(s);
    }

    /** The text is without an error up to its last character, or up to the place. */
    private static void error(Due due, String text, int place) {
        NestedSums x = new NestedSums();
        Due.type(x, text);
        due.is("firstError of " + text, x.firstError(), place);
    }

    private static void wrongAtEnd(Due due, String... texts) {
        for (String text : texts) {
            error(due, text, text.length() - 1);
        }
    }

    private static void ran(Due due, String text, int table, int row, int column, int kind) {
        NestedSums x = Build.grid(5, 5);
        for (int nested = 1; nested <= 4; nested++) {
            x.nest(nested - 1, 0, 1, 5, 5);
        }
        Due.type(x, text);
        due.is("run of " + text, x.run(), 1);
        due.is("its cell", x.cell(table, row, column, 0), kind);
        due.is("cells of the kind", x.count(2 + kind), 1);
    }

    private static void refused(Due due, String text) {
        NestedSums x = new NestedSums();
        Due.type(x, text);
        due.is("firstError of " + text, x.firstError(), text.length());
        due.refuses(x, Build.ARGUMENT, "run of " + text, x::run);
    }

    private static void buffer(Sentences s) {
        s.holds("The buffer has at most 60 characters.", "the 60th comes in, the 61st does not", due -> {
            NestedSums x = new NestedSums();
            for (int length = 1; length <= 60; length++) {
                due.is("append", x.append('a'), length);
            }
            due.refuses(x, Build.STATE, "the 61st", () -> x.append('a'));
            due.is("all are there", x.clearBuffer(), 60);
            due.is("then there is room again", x.append('a'), 1);
        });
        s.holds("The buffer has at most 60 characters.", "the 60th is read too", due -> {
            NestedSums x = new NestedSums();
            Due.type(x, "0a1!;".repeat(11) + "0c3=7");
            due.is("run", x.run(), 12);
            due.is("the last order's number", x.cell(0, 2, 2, 1), 7);
        });
    }

    private static void orders(Sentences s) {
        String some = "Orders as a text are one or more orders with \";\" between them";
        s.holds(some, "none are no orders", due -> refused(due, ""));
        s.holds(some, "one, and two", due -> {
            NestedSums x = new NestedSums();
            Due.type(x, "0a1^");
            due.is("one", x.run(), 1);
            Due.type(x, "0a1<;0b1#");
            due.is("two", x.run(), 2);
        });
        s.holds(some, "none may stand behind, ahead, or between two of them without an order", due -> {
            refused(due, "0a1!;");
            wrongAtEnd(due, ";", "0a1!;;", "0a1=5;;", "0a1w1;;");
        });
        s.holds(some, "nothing else parts them", due -> {
            wrongAtEnd(due, "0a1!0", "0a1!,", "0a1!:", "0a1=0,", "0a1w2:");
        });
        s.holds("the digit of a table, 0 to 4", "the least, the greatest, and those beyond", due -> {
            ran(due, "0a1w5", 0, 0, 0, 2);
            ran(due, "4a1w5", 4, 0, 0, 2);
            wrongAtEnd(due, "/", "5", "9", "a", "-");
        });
        s.holds("a letter, \"a\" to \"e\" (the columns 0 to 4)", "the least, the greatest, and those beyond", due -> {
            ran(due, "1a2w5", 1, 1, 0, 2);
            ran(due, "1e2w5", 1, 1, 4, 2);
            wrongAtEnd(due, "0`", "0f", "0A", "0E", "01");
        });
        s.holds("a digit, 1 to 5 (the rows 0 to 4)", "the least, the greatest, and those beyond", due -> {
            ran(due, "1c1w5", 1, 0, 2, 2);
            ran(due, "1c5w5", 1, 4, 2, 2);
            wrongAtEnd(due, "0a0", "0a6", "0a/", "0aa", "0a11");
        });
    }

    private static void number(Due due, String text, int number) {
        NestedSums x = new NestedSums();
        Due.type(x, "0b2=" + text);
        due.is("run with " + text, x.run(), 1);
        due.is("the kind", x.cell(0, 1, 1, 0), 1);
        due.is("the number", x.cell(0, 1, 1, 1), number);
    }

    private static void contents(Sentences s) {
        s.holds("and then \"=\", perhaps \"-\", and a number", "with and without it, and no other sign", due -> {
            number(due, "7", 7);
            number(due, "-7", -7);
            number(due, "-0", 0);
            wrongAtEnd(due, "0a1=--", "0a1=+", "0a1=1-", "0a1=0-", "0a1-", "0a1=a");
            refused(due, "0a1=");
            refused(due, "0a1=-");
        });
        s.holds("and a number, 0 to 999, without leading zeros", "the least, the greatest, and longer ones", due -> {
            int[] numbers = {0, 1, 9, 10, 99, 100, 999, -1, -9, -10, -99, -100, -999};
            for (int each : numbers) {
                number(due, String.valueOf(each), each);
            }
            wrongAtEnd(due, "0a1=1000", "0a1=9990", "0a1=-1000", "0a1=-9999");
        });
        s.holds("without leading zeros", "one zero alone, and within a number", due -> {
            wrongAtEnd(due, "0a1=00", "0a1=01", "0a1=09", "0a1=-00", "0a1=-05");
            number(due, "100", 100);
            number(due, "907", 907);
        });
        s.holds("or \"w\" and a width, 1 to 12", "the least, the greatest, and those beyond", due -> {
            for (int width = 1; width <= 12; width++) {
                NestedSums x = new NestedSums();
                Due.type(x, "0b2w" + width);
                due.is("run", x.run(), 1);
                due.is("the kind", x.cell(0, 1, 1, 0), 2);
                due.is("the width", x.cell(0, 1, 1, 5), width);
            }
            wrongAtEnd(due, "0a1w0", "0a1w13", "0a1w19", "0a1w20", "0a1w90", "0a1w100", "0a1w120", "0a1w-", "0a1W");
            refused(due, "0a1w");
        });
        String[] signs = {"\"^\" (a column sum)", "\"<\" (a row sum)", "\"#\" (a table sum)"};
        for (int k = 0; k < signs.length; k++) {
            String words = signs[k];
            String order = "2d3" + words.charAt(1);
            int kind = 4 + k;
            s.holds(words, "it comes to its cell, and ends the order", due -> {
                ran(due, order, 2, 2, 3, kind);
                wrongAtEnd(due, order + "1", order + words.charAt(1));
            });
        }
        s.holds("or \"!\" (it becomes empty)", "a number, a word, a sum, and a table", due -> {
            NestedSums x = new NestedSums();
            Due.type(x, "0a1=5;0b1w5;0c1#");
            x.run();
            x.nest(0, 1, 0, 1, 1);
            Due.type(x, "0a1!;0b1!;0c1!;0a2!;0b2!");
            due.is("run", x.run(), 5);
            due.is("empty cells", x.count(2), 9);
            wrongAtEnd(due, "0a1!!", "0a1!1", "0a1?");
        });
    }

    private static void errors(Sentences s) {
        s.holds("The buffer is read from left to right", "the first of more errors is told", due -> {
            error(due, "xxx", 0);
            error(due, "0a1=5x;0f", 5);
            error(due, "0a1w13;0a1=1000", 5);
        });
        String words = "a character is a syntax error if no orders as a text, of any length, begin with the characters "
                + "before it and this character.";
        s.holds(words, "an order that is not ended is none", due -> {
            String[] texts = {"", "0", "0a", "0a1", "0a1=", "0a1=-", "0a1=5", "0a1w", "0a1w1", "0a1!;", "0a1!;4"};
            for (String text : texts) {
                error(due, text, text.length());
            }
        });
        s.holds("of any length", "an order that the buffer has no room to end is none", due -> {
            String full = "0a1=1;".repeat(10);
            refused(due, full);
            refused(due, "0a1!;" + full.substring(0, 54) + "0");
        });
        s.holds("of any length", "the last of 60 characters may be one", due -> {
            error(due, "0a1=1;".repeat(9) + "0a1=1,", 59);
            error(due, "0a1!;".repeat(11) + "0c3=;", 59);
        });
        s.holds("begin with the characters before it and this character",
                "signs beside those that may stand there", due -> {
            for (String digits : new String[] {"0a1=", "0a1=-", "0a1=1", "0a1=12", "0a1w", "0a1w1"}) {
                wrongAtEnd(due, digits + "/", digits + ":", digits + "!", digits + "~");
            }
        });
    }

    private static void undo(Sentences s) {
        String words = "Each method that is marked \"undoable\" and does not throw an exception saves the state "
                + "from before it";
        s.holds(words, "a call that throws saves none", due -> {
            NestedSums x = Build.places();
            Due.Call[] calls = {() -> x.begin(0, 1), () -> x.nest(0, 1, 1, 1, 1), () -> x.put(0, 0, 0, 3, 1),
                    () -> x.span(0, 2, 1, 1, 1), () -> x.rule(0, 0, 0, 4, 0), () -> x.set(0), x::run};
            for (int k = 0; k < calls.length; k++) {
                try {
                    calls[k].on();
                    due.same("call " + k, "no exception", "an exception");
                } catch (IllegalArgumentException | IllegalStateException e) {
                    due.is("saved states after call " + k, x.count(12), 2);
                }
            }
        });
        s.holds(words, "those that are not marked save none", due -> {
            NestedSums x = new NestedSums();
            x.set(9);
            x.append('0');
            x.firstError();
            x.clearBuffer();
            x.cell(0, 0, 0, 0);
            x.ifPut(0, 0, 0, 5, 0);
            x.digest();
            due.is("saved states", x.count(12), 1);
            due.is("undo saves none", x.undo(), 0);
            due.refuses(x, Build.STATE, "undo", x::undo);
        });
        s.holds("(also if it changes nothing)", "each of the undoable calls", due -> {
            NestedSums x = new NestedSums();
            Due.Call[] calls = {() -> x.put(0, 0, 0, 0, 0), () -> x.span(0, 1, 1, 1, 1), () -> x.rule(0, 2, 2, 3, 0),
                    () -> x.set(10), () -> x.begin(3, 3)};
            for (Due.Call call : calls) {
                due.undoes(x, "without a change", call);
            }
            Due.type(x, "4a1!");
            due.is("run of none", x.run(), 0);
            due.is("saved states", x.count(12), 1);
        });
        s.holds("all but the buffer and the saved states.", "the buffer stays as it is", due -> {
            NestedSums x = new NestedSums();
            Due.type(x, "0a1=");
            x.set(20);
            Due.type(x, "5;");
            x.undo();
            due.is("the buffer", x.clearBuffer(), 6);
            x.set(20);
            x.undo();
            due.is("it does not come back", x.clearBuffer(), 0);
        });
        s.holds("all but the buffer and the saved states.", "all that there is comes back", due -> {
            NestedSums x = new NestedSums();
            x.nest(0, 1, 1, 2, 3);
            x.rule(1, 1, 2, 1, 3);
            x.span(1, 0, 0, 2, 2);
            x.put(1, 0, 0, 1, -45);
            long before = x.digest();
            x.set(60);
            x.begin(5, 5);
            x.undo();
            due.is("the state", x.set(7), 60);
            x.undo();
            x.undo();
            due.is("the state before that", x.digest(), before);
        });
        s.holds("all but the buffer and the saved states.", "a table is again in the cell where it was", due -> {
            NestedSums x = new NestedSums();
            x.nest(0, 0, 0, 2, 2);
            x.put(0, 0, 1, 5, 0);
            x.nest(1, 1, 1, 1, 1);
            x.put(1, 1, 1, 0, 0);
            x.nest(0, 2, 2, 1, 1);
            due.is("another one with its number", x.table(2, 7), 0);
            x.undo();
            x.undo();
            due.is("the table around it", x.table(2, 7), 1);
            due.is("who counts what is in it", x.countedBy(2, 0, 0), 1);
        });
        s.holds("all but the buffer and the saved states.", "what was undone is not saved", due -> {
            NestedSums x = new NestedSums();
            x.put(0, 0, 0, 1, 1);
            x.put(0, 0, 0, 1, 2);
            x.undo();
            due.is("left", x.undo(), 0);
            due.is("the cell is empty", x.cell(0, 0, 0, 0), 0);
        });
    }

    private static void sixStates(Sentences s) {
        s.holds("At most 6 states are saved", "five, six, and seven calls", due -> {
            for (int calls = 5; calls <= 7; calls++) {
                NestedSums x = new NestedSums();
                for (int number = 1; number <= calls; number++) {
                    x.put(0, 0, 0, 1, number);
                }
                due.is("after " + calls, x.count(12), Math.min(calls, 6));
            }
        });
        s.holds("the oldest one is dropped first.", "after seven calls, and after many", due -> {
            for (int calls : new int[] {6, 7, 8, 12, 13, 20}) {
                NestedSums x = new NestedSums();
                for (int number = 1; number <= calls; number++) {
                    x.put(0, 0, 0, 1, number);
                }
                for (int left = 5; left >= 0; left--) {
                    due.is("undo after " + calls, x.undo(), left);
                    due.is("the number", x.cell(0, 0, 0, 1), calls - 6 + left);
                }
                due.refuses(x, Build.STATE, "undo of the dropped one", x::undo);
            }
        });
        s.holds("the oldest one is dropped first.", "calls after an undo take the places of what was undone", due -> {
            NestedSums x = new NestedSums();
            for (int number = 1; number <= 8; number++) {
                x.put(0, 0, 0, 1, number);
            }
            x.undo();
            x.undo();
            for (int number = 11; number <= 13; number++) {
                x.put(0, 0, 0, 1, number);
            }
            int[] numbers = {12, 11, 6, 5, 4, 3};
            for (int k = 0; k < 6; k++) {
                due.is("undo", x.undo(), 5 - k);
                due.is("the number", x.cell(0, 0, 0, 1), numbers[k]);
            }
        });
    }

    private static NestedSums busy() {
        NestedSums x = new NestedSums();
        Due.type(x, "0a1=9;0b1");
        x.nest(0, 1, 1, 2, 5);
        x.span(0, 2, 0, 1, 2);
        x.put(1, 0, 0, 1, 77);
        x.put(0, 2, 2, 6, 0);
        x.rule(0, 0, 0, 0, 2);
        x.rule(0, 1, 1, 3, 1);
        return x;
    }

    /** The object is still as busy() makes it: told by calls that return what was there, as digest may be wrong too. */
    private static void stillBusy(Due due, NestedSums x) {
        due.is("the buffer's length", x.clearBuffer(), 9);
        due.is("the cell's rule", x.rule(0, 1, 1, 3, 3), 1);
        due.is("the kind of the number", x.put(1, 0, 0, 2, 4), 1);
        due.is("the kind of the sum", x.put(0, 2, 2, 0, 0), 6);
        due.is("the setting", x.set(9), 10);
        for (int left = 5; left >= 2; left--) {
            due.is("undo", x.undo(), left);
        }
        due.is("undo of the last rule", x.undo(), 1);
        due.is("the rule before it", x.rule(0, 1, 1, 3, 0), 0);
        x.undo();
        due.is("undo of the rule before", x.undo(), 0);
        due.is("that rule", x.rule(0, 0, 0, 0, 0), 0);
    }

    private static void unchanged(Sentences s, String method, Build.Place call) {
        s.holds("A call that throws an exception changes nothing.", method, due -> {
            for (int[] at : new int[][] {{0, 0, 0}, {0, 1, 1}, {0, 2, 0}, {0, 2, 1}, {0, 2, 2}, {1, 0, 0}, {9, 9, 9}}) {
                NestedSums x = busy();
                String got = "no exception";
                try {
                    call.on(x, at[0], at[1], at[2]);
                } catch (IndexOutOfBoundsException | IllegalArgumentException | IllegalStateException e) {
                    got = "an exception";
                }
                due.same("the call", got, "an exception");
                due.is("the digest", x.digest(), busy().digest());
                stillBusy(due, x);
            }
        });
    }

    private static void changesNothing(Sentences s) {
        unchanged(s, "begin", (x, table, row, column) -> x.begin(5, 6));
        unchanged(s, "nest, wrong columns", (x, table, row, column) -> x.nest(table, row, column, 2, 6));
        unchanged(s, "nest, no such square", (x, table, row, column) -> x.nest(table, row, column + 9, 2, 2));
        unchanged(s, "put, a wrong number", (x, table, row, column) -> x.put(table, row, column, 1, 1000));
        unchanged(s, "put, no such square", (x, table, row, column) -> x.put(table, row + 9, column, 1, 1));
        unchanged(s, "span, wrong rows", (x, table, row, column) -> x.span(table, row, column, 0, 1));
        unchanged(s, "span, too large for the table", (x, table, row, column) -> x.span(table, row, column, 5, 1));
        unchanged(s, "rule, a wrong rule", (x, table, row, column) -> x.rule(table, row, column, 0, 4));
        unchanged(s, "set", (x, table, row, column) -> x.set(61));
        unchanged(s, "append", (x, table, row, column) -> x.append(127));
        unchanged(s, "run, an order that is not ended", (x, table, row, column) -> x.run());
        unchanged(s, "cell", (x, table, row, column) -> x.cell(table, row, column, 12));
        unchanged(s, "edge", (x, table, row, column) -> x.edge(table, row, column, 4));
        unchanged(s, "table", (x, table, row, column) -> x.table(table, 8));
        unchanged(s, "size", (x, table, row, column) -> x.size(table, true, 3));
        unchanged(s, "page", (x, table, row, column) -> x.page(3));
        unchanged(s, "count", (x, table, row, column) -> x.count(13));
        unchanged(s, "ifPut", (x, table, row, column) -> x.ifPut(table, row, column, 1000, 0));
        unchanged(s, "countedBy", (x, table, row, column) -> x.countedBy(table, row, column + 9));
        unchanged(s, "heightFor", (x, table, row, column) -> x.heightFor(6));
        s.holds("A call that throws an exception changes nothing.", "nest, put, span and rule by their state", due -> {
            NestedSums x = Build.chain(5);
            x.span(0, 2, 0, 1, 2);
            due.refuses(x, Build.STATE, "a sixth table", () -> x.nest(4, 0, 0, 1, 1));
            due.refuses(x, Build.STATE, "put for a table that is not the last", () -> x.put(2, 0, 0, 0, 0));
            due.refuses(x, Build.STATE, "put into no cell", () -> x.put(0, 2, 1, 1, 5));
            due.refuses(x, Build.STATE, "span over a cell of more squares", () -> x.span(0, 1, 0, 2, 1));
            due.refuses(x, Build.STATE, "rule of no cell", () -> x.rule(0, 2, 1, 0, 3));
            NestedSums y = Build.chain(5);
            y.span(0, 2, 0, 1, 2);
            due.twins("after all", x, y);
        });
        s.holds("A call that throws an exception changes nothing.",
                "undo without a saved state, append to a full buffer", due -> {
            NestedSums x = new NestedSums();
            Due.type(x, "0a1=1;".repeat(10));
            due.refuses(x, Build.STATE, "undo", x::undo);
            due.refuses(x, Build.STATE, "append", () -> x.append('0'));
            due.refuses(x, Build.ARGUMENT, "run", x::run);
            due.is("the buffer", x.clearBuffer(), 60);
        });
    }

    private static void firstException(Sentences s) {
        String words = "If several exceptions apply, the one that is named first in the throws clause is thrown.";
        s.holds(words, "nest", due -> {
            NestedSums x = Build.chain(5);
            due.refuses(x, Build.OUTSIDE, "all three", () -> x.nest(5, 0, 0, 0, 0));
            due.refuses(x, Build.OUTSIDE, "the first and the second", () -> x.nest(0, 3, 0, 6, 1));
            due.refuses(x, Build.OUTSIDE, "the first and the third", () -> x.nest(1, 0, 1, 1, 1));
            due.refuses(x, Build.ARGUMENT, "the second and the third", () -> x.nest(0, 0, 0, 1, 6));
        });
        s.holds(words, "put", due -> {
            NestedSums x = Build.places();
            due.refuses(x, Build.OUTSIDE, "the first and the second", () -> x.put(0, 2, 3, 3, 0));
            due.refuses(x, Build.OUTSIDE, "the first and a wrong number", () -> x.put(1, 2, 0, 1, 1000));
            due.refuses(x, Build.ARGUMENT, "the second and no cell", () -> x.put(0, 2, 1, 3, 0));
            due.refuses(x, Build.ARGUMENT, "a wrong width and no cell", () -> x.put(0, 2, 1, 2, 0));
            x.nest(0, 0, 0, 1, 1);
            due.refuses(x, Build.ARGUMENT, "the second and a table that is not the last", () -> x.put(0, 1, 1, 7, 0));
        });
        s.holds(words, "span", due -> {
            NestedSums x = Build.places();
            due.refuses(x, Build.OUTSIDE, "no square and wrong rows", () -> x.span(0, 3, 0, 0, 1));
            due.refuses(x, Build.OUTSIDE, "beyond the table and no cell", () -> x.span(0, 2, 1, 2, 1));
            due.refuses(x, Build.OUTSIDE, "beyond the table and over a table", () -> x.span(0, 1, 0, 1, 4));
            due.refuses(x, Build.ARGUMENT, "beyond the table in rows, and wrong columns", () -> x.span(0, 0, 0, 5, 6));
            due.refuses(x, Build.ARGUMENT, "wrong rows and no cell", () -> x.span(0, 2, 1, 0, 1));
        });
        s.holds(words, "rule", due -> {
            NestedSums x = Build.places();
            due.refuses(x, Build.OUTSIDE, "the first and the second", () -> x.rule(2, 0, 0, 4, 0));
            due.refuses(x, Build.ARGUMENT, "a wrong side and no cell", () -> x.rule(0, 2, 1, 4, 0));
            due.refuses(x, Build.ARGUMENT, "a wrong rule and no cell", () -> x.rule(0, 2, 1, 0, -1));
        });
        s.holds(words, "append", due -> {
            NestedSums x = new NestedSums();
            Due.type(x, "0a1=1;".repeat(10));
            due.refuses(x, Build.ARGUMENT, "127 with a full buffer", () -> x.append(127));
            due.refuses(x, Build.ARGUMENT, "32 with a full buffer", () -> x.append(32));
        });
        s.holds(words, "cell, edge, table and ifPut", due -> {
            NestedSums x = Build.places();
            due.refuses(x, Build.OUTSIDE, "cell", () -> x.cell(0, 3, 0, 12));
            due.refuses(x, Build.OUTSIDE, "edge", () -> x.edge(0, 0, 3, 4));
            due.refuses(x, Build.OUTSIDE, "table", () -> x.table(2, 8));
            due.refuses(x, Build.OUTSIDE, "ifPut, a wrong number", () -> x.ifPut(1, 2, 0, 1000, 0));
            due.refuses(x, Build.OUTSIDE, "ifPut, a wrong what", () -> x.ifPut(-1, 0, 0, 0, 3));
        });
    }

    private static void looks(Sentences s) {
        s.holds("`NONE = -1`: There is nothing to return.", "the constant", due -> {
            due.is("NONE", NestedSums.NONE, -1);
        });
        s.holds("nothing is changed.", "by cell, edge, table, size, page and count", due -> {
            NestedSums x = busy();
            for (int square = 0; square < 9; square++) {
                for (int what = 0; what <= 11; what++) {
                    x.cell(0, square / 3, square % 3, what);
                }
                x.edge(0, square / 3, square % 3, square % 4);
                x.table(square % 2, square % 8);
                x.size(square % 2, square > 4, square % 2);
                x.page(square / 3);
                x.count(square);
            }
            stillBusy(due, x);
        });
        s.holds("nothing is changed.", "by ifPut, countedBy, heightFor, filledShare and digest", due -> {
            NestedSums x = busy();
            for (int square = 0; square < 9; square++) {
                for (int what = 0; what <= 2; what++) {
                    x.ifPut(0, square / 3, square % 3, -999, what);
                    x.ifPut(1, square % 2, square % 5, 999, what);
                }
                x.countedBy(0, square / 3, square % 3);
                x.heightFor(1 + square % 5);
                x.filledShare();
                x.digest();
            }
            due.is("a number stays", x.cell(1, 0, 0, 1), 77);
            due.is("a sum stays", x.cell(0, 2, 2, 2), 77);
            stillBusy(due, x);
        });
    }
}
