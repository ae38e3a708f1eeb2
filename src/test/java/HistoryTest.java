/** Promises 10 to 14: type, clearText, undo, keep, restore. */
final class HistoryTest {
    private static final String AT_FIRST = " 8 10 20 1 100";

    public static void main(String[] args) {
        type();
        clearText();
        undo();
        undoOfEachAct();
        historyDropsTheOldest();
        keepAndRestore();
        textIsNoState();
        Checks.finish();
    }

    private static void type() {
        FacingPlates x = new FacingPlates();
        for (int i = 1; i <= 60; i++) {
            Checks.due("type " + i, i, x.type((char) (i * 1000)));
        }
        Checks.due("type full", FacingPlates.FULL, x.type('1'));
        Checks.due("type full again", FacingPlates.FULL, x.type((char) 0));
        Checks.due("length", 60, x.count(16));
        Checks.due("type is no act", 0, x.count(15));
        x.clearText();
        Checks.due("type again", 1, x.type('2'));
        Checks.due("the text is new", 1, x.load());
        Checks.state("the text is new", x, "2" + AT_FIRST);
    }

    private static void clearText() {
        FacingPlates x = Checks.typed("1b@");
        Checks.due("clear", 3, x.clearText());
        Checks.due("clear empty", 0, x.clearText());
        Checks.due("empty", 0, x.count(16));
        Checks.due("clear is no act", 0, x.count(15));
        Checks.due("the empty text ends too early", -100, x.load());
    }

    private static void undo() {
        FacingPlates x = new FacingPlates();
        x.add(1, 1);
        x.add(2, 2);
        x.set(0, 16);
        Checks.due("undo", 2, x.undo());
        Checks.state("undo of set", x, "1b@0,2c@0" + AT_FIRST);
        Checks.due("undo", 1, x.undo());
        Checks.state("undo of add", x, "1b@0" + AT_FIRST);
        Checks.due("undo", 0, x.undo());
        Checks.state("undo of all", x, AT_FIRST);
        Checks.due("undo of nothing", FacingPlates.NONE, x.undo());
    }

    private static void undoOfEachAct() {
        String state = "1b@0,3c@3+" + AT_FIRST;
        FacingPlates x = Checks.loaded("1b,3c@3+");
        Checks.type(x, "2");
        x.keep();
        int[] answers = {x.load(), x.undo()};
        Checks.due("undo load", 1, answers[1]);
        Checks.state("undo load", x, state);
        x.remove(0);
        x.undo();
        Checks.state("undo remove", x, state);
        x.change(1, 1, 0);
        x.undo();
        Checks.state("undo change", x, state);
        x.move(0, 1);
        x.undo();
        Checks.state("undo move", x, state);
        x.choose(0, true, 1);
        x.undo();
        Checks.state("undo choose", x, state);
        Checks.due("plan", 41, x.plan());
        x.undo();
        Checks.state("undo plan", x, state);
        x.set(4, 0);
        x.restore();
        x.undo();
        Checks.state("undo restore", x, "1b@0,3c@3+ 8 10 20 1 0");
        Checks.due("states", 2, x.count(15));
    }

    private static void historyDropsTheOldest() {
        FacingPlates x = new FacingPlates();
        for (int i = 1; i <= 6; i++) {
            x.set(1, 20 + i);
            Checks.due("states", Math.min(i, 4), x.count(15));
        }
        for (int i = 5; i >= 2; i--) {
            Checks.due("undo " + i, i - 2, x.undo());
            Checks.due("setting " + i, 20 + i, x.count(11));
        }
        Checks.due("the oldest are gone", FacingPlates.NONE, x.undo());
        Checks.due("the setting stays", 22, x.count(11));
    }

    private static void keepAndRestore() {
        FacingPlates x = new FacingPlates();
        Checks.due("no snapshot", FacingPlates.NONE, x.restore());
        Checks.due("keep of none", 0, x.keep());
        Checks.due("keep is no act", 0, x.count(15));
        x.add(1, 1);
        Checks.due("restore of none", 0, x.restore());
        Checks.due("restore is an act", 2, x.count(15));
        Checks.due("restore of the same is an act", 0, x.restore());
        Checks.due("restore of the same is an act", 3, x.count(15));
        x.add(2, 2);
        x.choose(0, true, 1);
        x.set(3, 9);
        Checks.due("keep again", 1, x.keep());
        x.remove(0);
        x.set(3, 0);
        x.undo();
        Checks.due("restore", 1, x.restore());
        Checks.state("restore", x, "2c@1+ 8 10 20 9 100");
        x.add(1, 0);
        Checks.due("the snapshot stays", 1, x.restore());
        Checks.state("the snapshot stays", x, "2c@1+ 8 10 20 9 100");
    }

    private static void textIsNoState() {
        FacingPlates x = Checks.typed("1");
        x.keep();
        x.add(1, 0);
        x.type('b');
        x.undo();
        Checks.due("undo leaves the text", 2, x.count(16));
        x.restore();
        Checks.due("restore leaves the text", 2, x.count(16));
        Checks.due("restore leaves the history", 1, x.count(15));
        x.undo();
        x.keep();
        x.add(1, 0);
        x.undo();
        Checks.due("undo leaves the snapshot", 0, x.restore());
    }
}
