/** Holds answers against those that are due, prints the ones that are not, and ends with exit code 1 then. */
final class Due {
    private static final int MOST_PRINTED = 40;

    interface Call {
        void on();
    }

    private final String name;
    private String place = "";
    private int right;
    private int wrong;

    Due(String name) {
        this.name = name;
    }

    void at(String newPlace) {
        place = newPlace;
    }

    private void judge(boolean isRight, String call, String got, String want) {
        if (isRight) {
            right++;
            return;
        }
        wrong++;
        if (wrong <= MOST_PRINTED) {
            System.out.println(name + ", " + place + ": " + call + " answered " + got + ", due is " + want);
        }
    }

    void is(String call, long got, long want) {
        judge(got == want, call, String.valueOf(got), String.valueOf(want));
    }

    void same(String call, String got, String want) {
        judge(got.equals(want), call, got, want);
    }

    void sameDouble(String call, double got, double want) {
        judge(Double.doubleToLongBits(got) == Double.doubleToLongBits(want), call, String.valueOf(got),
                String.valueOf(want));
    }

    /** The call throws just this, and the object tells the same state after it. */
    void refuses(NestedSums x, Class<? extends RuntimeException> type, String what, Call call) {
        long before = x.digest();
        String got = "nothing thrown";
        try {
            call.on();
        } catch (RuntimeException e) {
            got = e.getClass().getName();
        }
        judge(got.equals(type.getName()), what, got, type.getName());
        judge(before == x.digest(), what + ", the digest after it", "another", "the same");
    }

    /** Appends a text to the buffer, sign by sign. */
    static void type(NestedSums x, String text) {
        for (int k = 0; k < text.length(); k++) {
            x.append(text.charAt(k));
        }
    }

    void end() {
        System.out.println(name + ": " + right + " answers as due, " + wrong + " not");
        if (wrong > 0) {
            System.exit(1);
        }
    }
}
