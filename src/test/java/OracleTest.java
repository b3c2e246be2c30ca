import java.util.Random;

/** Runs of drawn calls, with seeds that stay: each answer and each exception is the oracle's, and so is the digest. */
public final class OracleTest {
    private static final int RUNS = 1500;
    /** What later calls answer is free by the document. */
    private static final int MOST_CALLS = 512;
    private static final int MOST_CALLS_OF_A_STEP = 140;
    private static final String SIGNS = "00112abc1234=-59w^<#!;;";

    private OracleTest() {
    }

    private interface Call {
        long on();
    }

    private static String answer(Call call) {
        try {
            return String.valueOf(call.on());
        } catch (IndexOutOfBoundsException | IllegalArgumentException | IllegalStateException e) {
            return e.getClass().getSimpleName();
        }
    }

    private static int mostly(Random random, int least, int most) {
        if (random.nextInt(40) == 0) {
            int[] odd = {least - 1, most + 1, Integer.MIN_VALUE, Integer.MAX_VALUE, -1};
            return odd[random.nextInt(odd.length)];
        }
        return least + random.nextInt(most - least + 1);
    }

    private static String order(Random random) {
        String content;
        switch (random.nextInt(4)) {
            case 0:
                content = "=" + (random.nextInt(1999) - 999);
                break;
            case 1:
                content = "w" + (1 + random.nextInt(12));
                break;
            default:
                content = String.valueOf("^<#!".charAt(random.nextInt(4)));
                break;
        }
        return "" + random.nextInt(2) + "abcd".charAt(random.nextInt(4)) + (1 + random.nextInt(4)) + content;
    }

    private static void change(Random random, Due due, NestedSums x, Oracle o) {
        int tables = o.count(0);
        int t = mostly(random, 0, tables - 1);
        int rows = t >= 0 && t < tables ? o.table(t, 0) : 3;
        int columns = t >= 0 && t < tables ? o.table(t, 1) : 3;
        int r = mostly(random, 0, rows - 1);
        int c = mostly(random, 0, columns - 1);
        int kind = mostly(random, 0, 6);
        int number = random.nextInt(3) == 0 ? mostly(random, -999, 999) : mostly(random, 1, 12);
        int a = random.nextInt(10) == 0 ? mostly(random, 1, 5) : mostly(random, 1, 2);
        int b = random.nextInt(10) == 0 ? mostly(random, 1, 5) : mostly(random, 1, 2);
        int side = mostly(random, 0, 3);
        int rule = mostly(random, 0, 3);
        switch (random.nextInt(16)) {
            case 0:
                if (random.nextInt(8) == 0) {
                    due.same("begin", answer(() -> x.begin(a + 2, b + 2)), answer(() -> o.begin(a + 2, b + 2)));
                }
                break;
            case 1:
            case 2:
                due.same("nest", answer(() -> x.nest(t, r, c, a + 1, b + 1)),
                        answer(() -> o.nest(t, r, c, a + 1, b + 1)));
                break;
            case 3:
            case 4:
            case 5:
            case 6:
                due.same("put", answer(() -> x.put(t, r, c, kind, number)), answer(() -> o.put(t, r, c, kind, number)));
                break;
            case 7:
            case 8:
            case 9:
                due.same("span", answer(() -> x.span(t, r, c, a, b)), answer(() -> o.span(t, r, c, a, b)));
                break;
            case 10:
            case 11:
                due.same("rule", answer(() -> x.rule(t, r, c, side, rule)), answer(() -> o.rule(t, r, c, side, rule)));
                break;
            case 12:
                int height = random.nextInt(3) == 0 ? mostly(random, 1, 60) : mostly(random, 1, 8);
                due.same("set", answer(() -> x.set(height)), answer(() -> o.set(height)));
                break;
            case 13:
                for (int k = random.nextInt(3); k >= 0; k--) {
                    due.same("undo", answer(x::undo), answer(o::undo));
                }
                break;
            default:
                text(random, due, x, o);
                break;
        }
    }

    private static void text(Random random, Due due, NestedSums x, Oracle o) {
        StringBuilder text = new StringBuilder();
        int orders = random.nextInt(random.nextInt(8) == 0 ? 14 : 4);
        for (int k = 0; k < orders; k++) {
            text.append(text.length() == 0 ? "" : ";").append(order(random));
        }
        if (random.nextInt(3) == 0 && text.length() > 0) {
            text.setCharAt(random.nextInt(text.length()), SIGNS.charAt(random.nextInt(SIGNS.length())));
        }
        if (random.nextInt(20) == 0) {
            text.append((char) mostly(random, 33, 126));
        }
        for (int k = 0; k < text.length(); k++) {
            int code = text.charAt(k);
            due.same("append", answer(() -> x.append(code)), answer(() -> o.append(code)));
        }
        due.same("firstError " + text, answer(x::firstError), answer(o::firstError));
        due.same("run " + text, answer(x::run), answer(o::run));
        if (random.nextInt(4) != 0) {
            due.same("clearBuffer", answer(x::clearBuffer), answer(o::clearBuffer));
        }
    }

    private static void look(Random random, Due due, NestedSums x, Oracle o) {
        int tables = o.count(0);
        int t = mostly(random, 0, tables - 1);
        int r = mostly(random, 0, 3);
        int c = mostly(random, 0, 3);
        int n = mostly(random, 0, 12);
        int number = random.nextInt(3) == 0 ? 0 : mostly(random, -999, 999);
        int what = mostly(random, 0, 2);
        int pages = mostly(random, 1, 5);
        boolean isRow = random.nextBoolean();
        due.same("cell", answer(() -> x.cell(t, r, c, n)), answer(() -> o.cell(t, r, c, n)));
        due.same("edge", answer(() -> x.edge(t, r, c, n)), answer(() -> o.edge(t, r, c, n)));
        due.same("table", answer(() -> x.table(t, n)), answer(() -> o.table(t, n)));
        due.same("size", answer(() -> x.size(t, isRow, r)), answer(() -> o.size(t, isRow, r)));
        due.same("page", answer(() -> x.page(r)), answer(() -> o.page(r)));
        due.same("count", answer(() -> x.count(n)), answer(() -> o.count(n)));
        due.same("ifPut", answer(() -> x.ifPut(t, r, c, number, what)), answer(() -> o.ifPut(t, r, c, number, what)));
        due.same("countedBy", answer(() -> x.countedBy(t, r, c)), answer(() -> o.countedBy(t, r, c)));
        due.same("heightFor", answer(() -> x.heightFor(pages)), answer(() -> o.heightFor(pages)));
        due.sameDouble("filledShare", x.filledShare(), o.filledShare());
    }

    public static void main(String[] args) {
        Due due = new Due("OracleTest");
        for (int run = 0; run < RUNS; run++) {
            Random random = new Random(run);
            NestedSums x = new NestedSums();
            Oracle o = new Oracle();
            int start = due.judged();
            for (int step = 0; due.judged() - start <= MOST_CALLS - MOST_CALLS_OF_A_STEP; step++) {
                due.at("run " + run + ", step " + step);
                change(random, due, x, o);
                if (step % 3 == 0) {
                    look(random, due, x, o);
                }
                due.same("digest", answer(x::digest), answer(o::digest));
            }
        }
        due.end();
    }
}
