/** Tests of the terms that hold for all promises: rules of cells and edges, and the lines that they make. */
final class RulesTerms {
    private RulesTerms() {
    }

    static void all(Sentences s) {
        s.promise(0);
        cells(s);
        cellsWithTables(s);
        edges(s);
        lines(s);
    }

    private static void cells(Sentences s) {
        s.holds("Each cell has a rule for each side, 0 to 3 (0: none), at first 0",
                "at first, in old and new tables", due -> {
            NestedSums x = new NestedSums();
            x.nest(0, 1, 1, 1, 1);
            for (int side = 0; side <= 3; side++) {
                due.is("of a cell", x.cell(0, 0, 0, 8 + side), 0);
                due.is("of a cell with a table", x.cell(0, 1, 1, 8 + side), 0);
                due.is("of a cell in it", x.cell(1, 0, 0, 8 + side), 0);
            }
        });
        s.holds("Each cell has a rule for each side, 0 to 3 (0: none), at first 0",
                "the greatest, none, and those beyond", due -> {
            NestedSums x = new NestedSums();
            for (int side = 0; side <= 3; side++) {
                int at = side;
                x.rule(0, 1, 1, at, 3);
                due.is("the greatest", x.cell(0, 1, 1, 8 + at), 3);
                due.refusesEach(x, Build.ARGUMENT, "the rule", rule -> x.rule(0, 1, 1, at, rule), 4, -1);
                x.rule(0, 1, 1, at, 0);
                due.is("none", x.cell(0, 1, 1, 8 + at), 0);
            }
        });
        for (int side = 0; side <= 3; side++) {
            int at = side;
            s.holds("the sides are 0 above, 1 to the right, 2 below, 3 to the left.", "the side " + at, due -> {
                NestedSums x = new NestedSums();
                x.rule(0, 1, 1, at, 2);
                for (int other = 0; other <= 3; other++) {
                    due.is("the cell's rule " + other, x.cell(0, 1, 1, 8 + other), other == at ? 2 : 0);
                    int facing = x.edge(0, 1 + Build.STEPS[other][0], 1 + Build.STEPS[other][1], (other + 2) % 4);
                    due.is("seen from the neighbour on the side " + other, facing, other == at ? 2 : 0);
                }
            });
        }
    }

    private static void cellsWithTables(Sentences s) {
        String words = "the greatest one of its own and of the rules of the edges of that table on this side";
        for (int side = 0; side <= 3; side++) {
            int at = side;
            s.holds(words, "side " + at + ", the first square of the table, and the last one", due -> {
                for (int square = 0; square < 9; square++) {
                    NestedSums x = new NestedSums();
                    x.nest(0, 1, 1, 3, 3);
                    x.rule(1, square / 3, square % 3, at, 2);
                    int beside = square / 3 + Build.STEPS[at][0];
                    int besideColumn = square % 3 + Build.STEPS[at][1];
                    boolean isBorder = beside < 0 || beside > 2 || besideColumn < 0 || besideColumn > 2;
                    for (int other = 0; other <= 3; other++) {
                        due.is("square " + square + ", rule " + other, x.cell(0, 1, 1, 8 + other),
                                isBorder && other == at ? 2 : 0);
                    }
                }
            });
            s.holds(words, "side " + at + ", its own is greater, the same, or less", due -> {
                NestedSums x = new NestedSums();
                x.nest(0, 1, 1, 1, 1);
                x.rule(1, 0, 0, at, 2);
                int[] greatest = {2, 2, 2, 3};
                for (int own = 0; own <= 3; own++) {
                    x.rule(0, 1, 1, at, own);
                    due.is("with its own " + own, x.cell(0, 1, 1, 8 + at), greatest[own]);
                }
            });
        }
        s.holds(words, "of two edges on this side the greater one", due -> {
            NestedSums x = new NestedSums();
            x.nest(0, 1, 1, 1, 3);
            x.rule(1, 0, 0, 0, 1);
            x.rule(1, 0, 1, 0, 3);
            x.rule(1, 0, 2, 0, 2);
            due.is("above", x.cell(0, 1, 1, 8), 3);
        });
        s.holds(words, "through tables within tables, all five", due -> {
            NestedSums x = Build.chain(5);
            x.rule(4, 0, 0, 1, 3);
            for (int table = 0; table <= 3; table++) {
                due.is("the first cell of " + table, x.cell(table, 0, 0, 9), 3);
            }
            due.is("of the other sides none", x.cell(0, 0, 0, 8) + x.cell(0, 0, 0, 10) + x.cell(0, 0, 0, 11), 0);
        });
        s.holds(words, "the table within does not get those of the cell around it", due -> {
            NestedSums x = new NestedSums();
            x.nest(0, 1, 1, 1, 1);
            x.rule(0, 1, 1, 2, 3);
            due.is("the cell within", x.cell(1, 0, 0, 10), 0);
            due.is("its edge", x.edge(1, 0, 0, 2), 0);
        });
        s.holds(words, "when the table goes, its own is left", due -> {
            NestedSums x = new NestedSums();
            x.rule(0, 1, 1, 3, 1);
            x.nest(0, 1, 1, 1, 1);
            x.rule(1, 0, 0, 3, 3);
            x.put(0, 1, 1, 1, 5);
            due.is("its own", x.cell(0, 1, 1, 11), 1);
        });
    }

    private static void edges(Sentences s) {
        s.holds("An edge is a side of a square of a table", "also of a square that is no cell", due -> {
            NestedSums x = new NestedSums();
            x.span(0, 0, 0, 3, 3);
            for (int side = 0; side <= 3; side++) {
                x.rule(0, 0, 0, side, 1);
            }
            due.is("the last square, to the right", x.edge(0, 2, 2, 1), 1);
            due.is("the last square, below", x.edge(0, 2, 2, 2), 1);
            due.is("above the square in the middle of the first row", x.edge(0, 0, 1, 0), 1);
            due.is("to the left of the square below", x.edge(0, 1, 0, 3), 1);
        });
        String greater = "its rule is the greater one of the rules of the two cells that it parts";
        for (int side = 0; side <= 3; side++) {
            int at = side;
            s.holds(greater, "side " + at + ", whichever has the greater one", due -> {
                int row = 1 + Build.STEPS[at][0];
                int column = 1 + Build.STEPS[at][1];
                int facing = (at + 2) % 4;
                for (int own = 0; own <= 3; own++) {
                    for (int other = 0; other <= 3; other++) {
                        NestedSums x = new NestedSums();
                        x.rule(0, 1, 1, at, own);
                        x.rule(0, row, column, facing, other);
                        String pair = own + " and " + other;
                        due.is(pair, x.edge(0, 1, 1, at), Math.max(own, other));
                        due.is(pair + ", from the other", x.edge(0, row, column, facing), Math.max(own, other));
                    }
                }
            });
        }
        s.holds(greater, "of a cell of more squares and each of its neighbours", due -> {
            NestedSums x = Build.grid(3, 3);
            x.span(0, 0, 0, 2, 1);
            x.rule(0, 0, 0, 1, 2);
            x.rule(0, 0, 1, 3, 3);
            x.rule(0, 1, 1, 3, 1);
            due.is("the upper one", x.edge(0, 0, 0, 1), 3);
            due.is("the lower one", x.edge(0, 1, 0, 1), 2);
            due.is("the lower one from the other side", x.edge(0, 1, 1, 3), 2);
            due.is("the one below that", x.edge(0, 2, 0, 1), 0);
        });
        s.holds(greater, "with those of a table in one of them", due -> {
            NestedSums x = Build.grid(1, 2);
            x.nest(0, 0, 0, 2, 2);
            x.rule(1, 1, 1, 1, 2);
            x.rule(0, 0, 1, 3, 1);
            due.is("between them", x.edge(0, 0, 1, 3), 2);
            due.is("in the table it is the other one's border", x.edge(1, 0, 1, 1), 0);
        });
        s.holds("or of the one cell at the border", "each border of the first and of the last square", due -> {
            NestedSums x = Build.grid(5, 5);
            for (int side = 0; side <= 3; side++) {
                int corner = side == 0 || side == 3 ? 0 : 4;
                x.rule(0, corner, corner, side, 3);
                due.is("the side " + side, x.edge(0, corner, corner, side), 3);
            }
            due.is("edges with a rule", x.count(10), 4);
        });
        s.holds("or of the one cell at the border", "the end of a row is not beside the next row", due -> {
            NestedSums x = Build.grid(5, 5);
            x.rule(0, 1, 4, 1, 3);
            due.is("to the left of the next row", x.edge(0, 2, 0, 3), 0);
            x.rule(0, 3, 0, 3, 2);
            due.is("to the right of the row before", x.edge(0, 2, 4, 1), 0);
        });
        s.holds("or of the one cell at the border", "the last table's end is not beside another table", due -> {
            NestedSums x = Build.grid(5, 5);
            x.nest(0, 0, 0, 5, 5);
            x.rule(1, 0, 0, 0, 3);
            due.is("below the table 0", x.edge(0, 4, 0, 2), 0);
            x.rule(0, 4, 4, 2, 2);
            due.is("above the table 1, in its last column", x.edge(1, 0, 4, 0), 0);
        });
        s.holds("an edge within a cell has the rule 0.", "across and down, with all its rules", due -> {
            NestedSums x = Build.grid(2, 2);
            x.span(0, 0, 0, 2, 2);
            for (int side = 0; side <= 3; side++) {
                x.rule(0, 0, 0, side, 3);
            }
            due.is("to the right of the first square", x.edge(0, 0, 0, 1), 0);
            due.is("below it", x.edge(0, 0, 0, 2), 0);
            due.is("above the last square", x.edge(0, 1, 1, 0), 0);
            due.is("to the left of it", x.edge(0, 1, 1, 3), 0);
        });
    }

    private static void lines(Sentences s) {
        String across = "The edges of a table between two columns (or at its border) that are one below the other "
                + "make a line";
        for (int line = 0; line <= 5; line++) {
            int at = line;
            s.holds(across, "the line " + at + " of six, by one edge in any row", due -> {
                for (int row = 0; row < 5; row++) {
                    NestedSums x = Build.grid(5, 5);
                    x.rule(0, row, at == 5 ? 4 : at, at == 5 ? 1 : 3, 1);
                    due.is("row " + row + ", lines between columns", x.table(0, 5), 1);
                    due.is("row " + row + ", lines between rows", x.table(0, 6), 0);
                }
            });
        }
        s.holds(across, "all six of a table, each once", due -> {
            NestedSums x = Build.grid(2, 5);
            for (int square = 0; square < 10; square++) {
                x.rule(0, square / 5, square % 5, 1, 1);
                x.rule(0, square / 5, square % 5, 3, 2);
            }
            due.is("lines between columns", x.table(0, 5), 6);
            due.is("lines between rows", x.table(0, 6), 0);
        });
        s.holds("it is drawn if one of its edges has a rule above 0.", "rules 0 to 3", due -> {
            NestedSums x = new NestedSums();
            for (int rule = 0; rule <= 3; rule++) {
                x.rule(0, 1, 1, 1, rule);
                due.is("with the rule " + rule, x.table(0, 5), rule > 0 ? 1 : 0);
            }
        });
        s.holds("it is drawn if one of its edges has a rule above 0.", "not by a rule that is within a cell", due -> {
            NestedSums x = new NestedSums();
            x.span(0, 1, 0, 1, 2);
            x.rule(0, 1, 0, 1, 1);
            due.is("the line at the cell's end", x.table(0, 5), 1);
            x.rule(0, 2, 0, 1, 1);
            due.is("the one that it covers in part", x.table(0, 5), 2);
            x.span(0, 2, 0, 1, 2);
            due.is("both cells cover it", x.table(0, 5), 1);
        });
        for (int line = 0; line <= 5; line++) {
            int at = line;
            s.holds("Likewise with rows.", "the line " + at + " of six, by one edge in any column", due -> {
                for (int column = 0; column < 5; column++) {
                    NestedSums x = Build.grid(5, 5);
                    x.rule(0, at == 5 ? 4 : at, column, at == 5 ? 2 : 0, 1);
                    due.is("column " + column + ", lines between rows", x.table(0, 6), 1);
                    due.is("column " + column + ", lines between columns", x.table(0, 5), 0);
                }
            });
        }
        s.holds("Likewise with rows.", "not by a rule that is within a cell", due -> {
            NestedSums x = new NestedSums();
            x.span(0, 0, 1, 2, 1);
            x.rule(0, 0, 1, 2, 1);
            due.is("the line at the cell's end", x.table(0, 6), 1);
            x.rule(0, 0, 2, 2, 1);
            due.is("the one that it covers in part", x.table(0, 6), 2);
        });
        s.holds("Likewise with rows.", "those of a table within a cell", due -> {
            NestedSums x = new NestedSums();
            x.nest(0, 1, 1, 2, 2);
            x.rule(1, 0, 0, 2, 1);
            due.is("between its rows", x.table(1, 6), 1);
            due.is("which is none outside", x.table(0, 6), 0);
            x.rule(1, 1, 1, 2, 1);
            due.is("at its border", x.table(1, 6), 2);
            due.is("which is one outside", x.table(0, 6), 1);
        });
    }
}
