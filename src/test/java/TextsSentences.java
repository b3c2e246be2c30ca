/** Tests of the sentences of the promises 8 to 12: the buffer, its errors, its orders, and undo. */
final class TextsSentences {
    private static final String FULL = "0a1=1;".repeat(10);

    private TextsSentences() {
    }

    static void all(Sentences s) {
        append(s);
        clearBuffer(s);
        firstError(s);
        run(s);
        runStops(s);
        runSaves(s);
        undo(s);
    }

    private static NestedSums typed(String text) {
        NestedSums x = new NestedSums();
        Due.type(x, text);
        return x;
    }

    private static void append(Sentences s) {
        s.promise(8);
        s.holds("Appends a character to the buffer.", "behind those that are there", due -> {
            NestedSums x = typed("0c2=");
            x.append('-');
            x.append('4');
            x.run();
            due.is("the number", x.cell(0, 1, 2, 1), -4);
        });
        s.holds("Appends a character to the buffer.",
                "any character, also where it is an error, and each counts", due -> {
            long none = new NestedSums().digest();
            for (int code = 33; code <= 126; code++) {
                NestedSums x = new NestedSums();
                due.is("append", x.append(code), 1);
                due.is("the digest of " + code, x.digest(), (none + 1) * 31 + code);
            }
        });
        s.holds("`code`: the character code, 33 to 126", "the least, and the greatest", due -> {
            NestedSums x = new NestedSums();
            due.is("the least", x.append(33), 1);
            due.is("the greatest", x.append(126), 2);
        });
        s.holds("Returns the new length of the buffer.", "1, and up to 60", due -> {
            NestedSums x = new NestedSums();
            for (int length = 1; length <= 60; length++) {
                due.is("append", x.append('!'), length);
            }
        });
        s.holds("Throws `IllegalArgumentException` if code is not 33 to 126", "just beyond, and far off", due -> {
            NestedSums x = typed("0a");
            due.refusesEach(x, Build.ARGUMENT, "the code", x::append, 32, 127, 0, -1, 128, 289, 33 - 256, 33 + 65536);
            due.is("the buffer", x.clearBuffer(), 2);
        });
        s.holds("Throws `IllegalStateException` if the buffer has 60 characters", "not with 59", due -> {
            NestedSums x = typed(FULL.substring(0, 59));
            due.is("with 59", x.append('!'), 60);
            due.refuses(x, Build.STATE, "with 60", () -> x.append('!'));
            due.refuses(x, Build.STATE, "with 60, again", () -> x.append('!'));
            x.clearBuffer();
            due.is("with none", x.append('!'), 1);
        });
    }

    private static void clearBuffer(Sentences s) {
        s.promise(9);
        s.holds("Clears the buffer.", "nothing of it is read then", due -> {
            NestedSums x = typed("xyz");
            x.clearBuffer();
            due.is("no error", x.firstError(), 0);
            due.is("as a new object", x.digest(), new NestedSums().digest());
            Due.type(x, "0a1=5");
            due.is("run", x.run(), 1);
        });
        s.holds("Clears the buffer.", "and nothing else", due -> {
            NestedSums x = Build.places();
            long before = x.digest();
            Due.type(x, "0a1=5");
            x.clearBuffer();
            due.is("the state", x.digest(), before);
            due.is("saved states", x.count(12), 2);
        });
        s.holds("Returns the length that it had.", "none, one, and 60", due -> {
            NestedSums x = new NestedSums();
            due.is("none", x.clearBuffer(), 0);
            x.append('a');
            due.is("one", x.clearBuffer(), 1);
            due.is("none again", x.clearBuffer(), 0);
            Due.type(x, FULL);
            due.is("sixty", x.clearBuffer(), 60);
        });
    }

    private static void firstError(Sentences s) {
        s.promise(10);
        s.holds("Finds the first syntax error of the buffer.", "and leaves the buffer", due -> {
            NestedSums x = typed("0a1=5;x;y");
            due.is("firstError", x.firstError(), 6);
            due.is("again", x.firstError(), 6);
            due.is("the buffer", x.clearBuffer(), 9);
        });
        s.holds("Returns the index of the first character that is a syntax error",
                "the first, the 60th, and one of more", due -> {
            due.is("the first", typed("x").firstError(), 0);
            due.is("the 60th", typed(FULL.substring(0, 59) + "x").firstError(), 59);
            due.is("the first of three", typed("0a1=01=01;x").firstError(), 5);
            due.is("though good orders follow", typed("0x;0a1=5").firstError(), 1);
        });
        s.holds("Returns the index of the first character that is a syntax error",
                "an order that run would not do is none", due -> {
            due.is("a table that is not there", typed("4a1=5").firstError(), 5);
            due.is("a square that is not there", typed("0e5=5").firstError(), 5);
        });
        s.holds("the length of the buffer if there is none.",
                "none, whole orders, orders that are not ended, and 60", due -> {
            due.is("no character", typed("").firstError(), 0);
            due.is("whole orders", typed("0a1=5;0b1!").firstError(), 10);
            due.is("not ended", typed("0a1=5;0").firstError(), 7);
            due.is("sixty", typed(FULL).firstError(), 60);
        });
    }

    private static void run(Sentences s) {
        s.promise(11);
        s.holds("Does the orders in the buffer as put() does, one after the other",
                "later ones in place of earlier ones", due -> {
            NestedSums x = typed("0a1=5;0a1=6;0a1w3;0a1=-7");
            due.is("run", x.run(), 4);
            due.is("the number", x.cell(0, 0, 0, 1), -7);
        });
        s.holds("Does the orders in the buffer as put() does", "each kind of order, as put with the same", due -> {
            String[] texts = {"1b2=0", "1b2=-999", "1b2=999", "1b2w1", "1b2w12", "1b2^", "1b2<", "1b2#", "1b2!"};
            int[][] puts = {{1, 0}, {1, -999}, {1, 999}, {2, 1}, {2, 12}, {4, 0}, {5, 0}, {6, 0}, {0, 0}};
            for (int k = 0; k < texts.length; k++) {
                NestedSums x = Build.places();
                NestedSums y = Build.places();
                Due.type(x, texts[k]);
                due.is("run of " + texts[k], x.run(), 1);
                y.put(1, 1, 1, puts[k][0], puts[k][1]);
                due.twins("after " + texts[k], x, y);
            }
        });
        s.holds("Does the orders in the buffer as put() does",
                "the column by its letter, the row by its digit", due -> {
            NestedSums x = Build.grid(2, 5);
            Due.type(x, "0e1=5;0a2=6");
            due.is("run", x.run(), 2);
            due.is("the letter e, the digit 1", x.cell(0, 0, 4, 1), 5);
            due.is("the letter a, the digit 2", x.cell(0, 1, 0, 1), 6);
        });
        s.holds("Does the orders in the buffer as put() does", "a table that is the last one is gone then", due -> {
            NestedSums x = Build.chain(3);
            Due.type(x, "1a1=5;0a1!");
            due.is("run", x.run(), 2);
            due.is("tables", x.count(0), 1);
        });
        s.holds("and clears the buffer.", "after all orders, some, and none", due -> {
            for (String text : new String[] {"0a1=5;0b1=6", "0a1=5;4a1=6", "4a1=5;0a1=6"}) {
                NestedSums x = typed(text);
                x.run();
                due.is("the buffer after " + text, x.clearBuffer(), 0);
                due.is("the next character", x.append('0'), 1);
            }
        });
        s.holds("Throws `IllegalArgumentException` if the buffer does not tell orders as a text",
                "nothing, an end that is missing", due -> {
            String[] texts = {"", "0", "0a", "0a1", "0a1=", "0a1=-", "0a1w", "0a1!;", "0a1!;0", "0a1=5;0a1=-", FULL};
            for (String text : texts) {
                NestedSums x = typed(text);
                due.refuses(x, Build.ARGUMENT, "run of " + text, x::run);
                due.is("the buffer of " + text, x.clearBuffer(), text.length());
            }
        });
        s.holds("Throws `IllegalArgumentException` if the buffer does not tell orders as a text",
                "an error, first, last, or behind orders", due -> {
            String[] texts = {"x", ";0a1!", "0a1=1000", "0a1w13", "0a1=01", "0a1=5;x", "0a1=5;;0a1=6", "5a1=5"};
            for (String text : texts) {
                NestedSums x = typed(text);
                due.refuses(x, Build.ARGUMENT, "run of " + text, x::run);
                due.is("no order is done of " + text, x.count(2), 9);
                due.is("no state is saved for " + text, x.count(12), 0);
            }
        });
    }

    private static void runStops(Sentences s) {
        String words = "up to the first one for which it would throw an exception";
        s.holds(words, "no such table, row, or column", due -> {
            for (String wrong : new String[] {"1a1=9", "4a1=9", "0a4=9", "0d1=9", "0e5=9"}) {
                NestedSums x = typed("0a1=5;" + wrong + ";0b1=6");
                due.is("run with " + wrong, x.run(), 1);
                due.is("the one ahead of " + wrong, x.cell(0, 0, 0, 1), 5);
                due.is("the one behind " + wrong, x.cell(0, 0, 1, 0), 0);
            }
        });
        s.holds(words, "a square that is no cell", due -> {
            NestedSums x = Build.places();
            Due.type(x, "0a3=5;0b3=6;0c3=7");
            due.is("run", x.run(), 1);
            due.is("the value", x.table(0, 2), 5);
        });
        s.holds(words, "a table that is not the one with the greatest number", due -> {
            NestedSums x = Build.chain(3);
            Due.type(x, "0b1=5;0a1!;0c1=6");
            due.is("run", x.run(), 1);
            due.is("tables", x.count(0), 3);
            due.is("the value", x.table(0, 2), 5);
        });
        s.holds(words, "a table that an order ahead of it took away", due -> {
            NestedSums x = Build.chain(2);
            Due.type(x, "1a1=4;0a1!;1a1=5;0b1=6");
            due.is("run", x.run(), 2);
            due.is("the value", x.table(0, 2), 0);
        });
        s.holds(words, "the first, and the last", due -> {
            NestedSums x = typed("0d1=5;0a1=6");
            due.is("the first", x.run(), 0);
            Due.type(x, "0a1=6;0d1=5");
            due.is("the last", x.run(), 1);
        });
        s.holds("Returns how many are done.", "none, one, and as many as there is room for", due -> {
            NestedSums x = typed("4e5!");
            due.is("none", x.run(), 0);
            Due.type(x, "0a1!");
            due.is("one", x.run(), 1);
            Due.type(x, "0a1!;".repeat(11) + "0c3w5");
            due.is("twelve", x.run(), 12);
        });
    }

    private static void runSaves(Sentences s) {
        String words = "Undoable, as one call, also if none is done.";
        s.holds(words, "one state for more orders", due -> {
            NestedSums x = typed("0a1=5;0b1=6;0c1=7");
            x.run();
            due.is("saved states", x.count(12), 1);
            due.is("undo", x.undo(), 0);
            due.is("all are undone", x.digest(), new NestedSums().digest());
        });
        s.holds(words, "one state for none", due -> {
            NestedSums x = new NestedSums();
            x.put(0, 0, 0, 1, 5);
            Due.type(x, "4a1=5;0a1=6");
            due.is("run", x.run(), 0);
            due.is("saved states", x.count(12), 2);
            due.is("undo", x.undo(), 1);
            due.is("the number is not undone", x.cell(0, 0, 0, 1), 5);
        });
        s.holds(words, "the state from before the first order, with six saved", due -> {
            NestedSums x = new NestedSums();
            for (int number = 1; number <= 6; number++) {
                x.put(0, 0, 0, 1, number);
            }
            Due.type(x, "0a1=7;0a1=8");
            x.run();
            due.is("saved states", x.count(12), 6);
            x.undo();
            due.is("the number", x.cell(0, 0, 0, 1), 6);
            for (int left = 4; left >= 0; left--) {
                due.is("undo", x.undo(), left);
            }
            due.is("the oldest one is dropped", x.cell(0, 0, 0, 1), 1);
        });
        s.holds(words, "the buffer does not come back", due -> {
            NestedSums x = typed("0a1=5");
            x.run();
            x.undo();
            due.is("the buffer", x.clearBuffer(), 0);
        });
    }

    private static void undo(Sentences s) {
        s.promise(12);
        s.holds("Restores the latest saved state, and drops it.", "the latest first, then the one before it", due -> {
            NestedSums x = new NestedSums();
            x.put(0, 0, 0, 1, 1);
            x.put(0, 0, 0, 1, 2);
            x.put(0, 0, 0, 1, 3);
            x.undo();
            due.is("the latest", x.cell(0, 0, 0, 1), 2);
            x.undo();
            due.is("the one before it", x.cell(0, 0, 0, 1), 1);
            x.put(0, 0, 0, 1, 4);
            x.undo();
            due.is("after another call", x.cell(0, 0, 0, 1), 1);
        });
        s.holds("Restores the latest saved state, and drops it.", "a table that is gone comes back whole", due -> {
            NestedSums x = Build.places();
            x.put(1, 1, 4, 1, 88);
            long before = x.digest();
            x.put(0, 1, 1, 0, 0);
            x.nest(0, 0, 0, 5, 1);
            x.put(1, 4, 0, 1, 7);
            x.undo();
            x.undo();
            x.undo();
            due.is("the state", x.digest(), before);
            due.is("its number", x.cell(1, 1, 4, 1), 88);
            due.is("its columns", x.table(1, 1), 5);
        });
        s.holds("Restores the latest saved state, and drops it.",
                "what comes after it does not change what is saved", due -> {
            NestedSums x = new NestedSums();
            x.put(0, 0, 0, 1, 1);
            x.put(0, 0, 0, 1, 2);
            x.undo();
            x.put(0, 1, 1, 1, 50);
            x.undo();
            due.is("the number", x.cell(0, 0, 0, 1), 1);
            due.is("the other", x.cell(0, 1, 1, 0), 0);
            x.undo();
            due.is("as at first", x.digest(), new NestedSums().digest());
        });
        s.holds("Returns how many saved states are left.", "five down to none", due -> {
            NestedSums x = new NestedSums();
            for (int call = 1; call <= 7; call++) {
                x.set(call);
            }
            for (int left = 5; left >= 0; left--) {
                due.is("undo", x.undo(), left);
                due.is("told by count", x.count(12), left);
            }
        });
        s.holds("Throws `IllegalStateException` if there is none", "at first, and when all are used up", due -> {
            NestedSums x = new NestedSums();
            due.refuses(x, Build.STATE, "at first", x::undo);
            x.set(5);
            x.undo();
            due.refuses(x, Build.STATE, "when the one is used up", x::undo);
            for (int call = 1; call <= 8; call++) {
                x.set(call);
            }
            for (int left = 5; left >= 0; left--) {
                x.undo();
            }
            due.refuses(x, Build.STATE, "when six are used up", x::undo);
            due.is("the setting", x.set(9), 2);
        });
    }
}
