/**
 * Two objects with the same calls behind them: one is then asked for something, and nothing may tell them apart
 * but the answer. Behind the call comes all that can be seen of the lots, the choices, the settings, the history,
 * the snapshot and the text.
 */
final class Twins {
    private Twins() {
    }

    interface Calls {
        void on(FacingPlates x);
    }

    interface Call {
        int on(FacingPlates x);
    }

    static void noTrace(String what, Calls ahead, int want, Call call) {
        FacingPlates asked = new FacingPlates();
        FacingPlates untouched = new FacingPlates();
        ahead.on(asked);
        ahead.on(untouched);
        Checks.due(what, want, call.on(asked));
        Checks.same(what + ": all that is seen behind it", seen(untouched), seen(asked));
    }

    private static String seen(FacingPlates x) {
        StringBuilder out = new StringBuilder();
        note(out, "now", x.count(15), x);
        out.append("; text of ").append(x.count(16));
        int states = x.undo();
        while (states != FacingPlates.NONE) {
            note(out, "undo", states, x);
            states = x.undo();
        }
        note(out, "restore", x.restore(), x);
        note(out, "load", x.load(), x);
        out.append("; type ").append(x.type('+')).append("; load ").append(x.load());
        return out.toString();
    }

    private static void note(StringBuilder out, String call, int answer, FacingPlates x) {
        out.append("; ").append(call).append(' ').append(answer).append(": ").append(Checks.write(x));
        out.append(" at ").append(x.count(9));
    }
}
