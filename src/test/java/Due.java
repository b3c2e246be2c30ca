/** Holds answers against those that are due, prints the ones that are not, and ends with exit code 1 then. */
final class Due {
    private static final int MOST_PRINTED = 40;

    interface Call {
        void on();
    }

    interface Given {
        void on(int number);
    }

    private final String name;
    private String place = "";
    private int right;
    private int wrong;

    Due(String name) {
        this.name = name;
    }

    void at(String newPlace) {
        place = newPlace;
    }

    private void judge(boolean isRight, String call, String got, String want) {
        if (isRight) {
            right++;
            return;
        }
        wrong++;
        if (wrong <= MOST_PRINTED) {
            System.out.println(name + ", " + place + ": " + call + " answered " + got + ", due is " + want);
        }
    }

    /** How many answers were looked at. */
    int judged() {
        return right + wrong;
    }

    void is(String call, long got, long want) {
        judge(got == want, call, String.valueOf(got), String.valueOf(want));
    }

    void same(String call, String got, String want) {
        judge(got.equals(want), call, got, want);
    }

    void sameDouble(String call, double got, double want) {
        judge(Double.doubleToLongBits(got) == Double.doubleToLongBits(want), call, String.valueOf(got),
                String.valueOf(want));
    }

    /** The call throws just this, and the object tells the same state after it. */
    void refuses(NestedSums x, Class<? extends RuntimeException> type, String what, Call call) {
        long before = x.digest();
        String got = "nothing thrown";
        try {
            call.on();
        } catch (RuntimeException e) {
            got = e.getClass().getName();
        }
        judge(got.equals(type.getName()), what, got, type.getName());
        judge(before == x.digest(), what + ", the digest after it", "another", "the same");
    }

    /** The call throws just this with each of the numbers, and with the least and the greatest int. */
    void refusesEach(NestedSums x, Class<? extends RuntimeException> type, String what, Given call, int... numbers) {
        for (int number : numbers) {
            refuses(x, type, what + " " + number, () -> call.on(number));
        }
        refuses(x, type, what + " of the least int", () -> call.on(Integer.MIN_VALUE));
        refuses(x, type, what + " of the greatest int", () -> call.on(Integer.MAX_VALUE));
    }

    void accepts(String what, Call call) {
        String got = "no exception";
        try {
            call.on();
        } catch (RuntimeException e) {
            got = e.getClass().getName();
        }
        judge(got.equals("no exception"), what, got, "no exception");
    }

    /** The call saves one state more, and undo brings back what was before it. */
    void undoes(NestedSums x, String what, Call call) {
        long before = x.digest();
        int saved = x.count(12);
        call.on();
        is(what + ", saved states", x.count(12), saved + 1);
        is(what + ", undo", x.undo(), saved);
        is(what + ", the state after undo", x.digest(), before);
    }

    /** Both tell the same state, and so do the states that they have saved, which are used up by this. */
    void twins(String what, NestedSums x, NestedSums y) {
        is(what + ", saved states", x.count(12), y.count(12));
        is(what + ", the state", x.digest(), y.digest());
        for (int left = Math.min(x.count(12), y.count(12)); left > 0; left--) {
            x.undo();
            y.undo();
            is(what + ", the saved state " + left, x.digest(), y.digest());
        }
    }

    /** Appends a text to the buffer, sign by sign. */
    static void type(NestedSums x, String text) {
        for (int k = 0; k < text.length(); k++) {
            x.append(text.charAt(k));
        }
    }

    void end() {
        System.out.println(name + ": " + right + " answers as due, " + wrong + " not");
        if (wrong > 0) {
            System.exit(1);
        }
    }
}
