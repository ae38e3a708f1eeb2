/** Counts the answers that are not as due; finish() ends a test's main method. */
final class Checks {
    /** Out of every argument's range; times 4, 8 or 16 some of them wrap around and come back into it. */
    static final int[] FAR = {Integer.MIN_VALUE, Integer.MIN_VALUE + 1, -(1 << 30), -1000, 1000, 1 << 28, 1 << 29,
        1 << 30, Integer.MAX_VALUE - 1, Integer.MAX_VALUE};

    private static int wrong = 0;

    private Checks() {
    }

    static void due(String what, int want, int got) {
        if (got != want) {
            wrong++;
            System.out.println(what + " answered " + got + ", due is " + want);
        }
    }

    static void finish() {
        System.out.println(wrong == 0 ? "all answers are as due" : wrong + " answers are not as due");
        if (wrong != 0) {
            System.exit(1);
        }
    }

    static FacingPlates typed(String text) {
        FacingPlates x = new FacingPlates();
        type(x, text);
        return x;
    }

    static void type(FacingPlates x, String text) {
        for (int i = 0; i < text.length(); i++) {
            x.type(text.charAt(i));
        }
    }

    /** A catalogue of the text, all else being as in a new object but the history of one state. */
    static FacingPlates loaded(String text) {
        FacingPlates x = typed(text);
        if (x.load() < 0) {
            due("load of " + text, 1, x.load());
        }
        x.clearText();
        return x;
    }

    /** Tells whether lots, choices and settings are the text's that write() gives. */
    static void state(String what, FacingPlates x, String want) {
        same(what + ": the state", want, write(x));
    }

    static void same(String what, String want, String got) {
        if (!got.equals(want)) {
            wrong++;
            System.out.println(what + " is " + got + ", due is " + want);
        }
    }

    static String write(FacingPlates x) {
        StringBuilder out = new StringBuilder();
        int lots = x.count(0);
        for (int lot = 0; lot < lots; lot++) {
            out.append(lot == 0 ? "" : ",").append(x.lot(lot, 0));
            int plate = x.lot(lot, 1);
            if (plate != 0) {
                out.append(plate == 1 ? "b@" : "c@").append(x.lot(lot, 3));
            }
            out.append(x.lot(lot, 2) == 1 ? "+" : "");
        }
        for (int setting = 0; setting < 5; setting++) {
            out.append(' ').append(x.count(10 + setting));
        }
        return out.toString();
    }
}
