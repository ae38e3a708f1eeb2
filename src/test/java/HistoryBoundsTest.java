/** The sentences under "HISTORY" and of promises 12 to 14 that name a bound, an empty or a full state. */
final class HistoryBoundsTest {
    private static final int NONE = FacingPlates.NONE;
    private static final String AT_FIRST = " 8 10 20 1 100";

    public static void main(String[] args) {
        emptyHistory();
        atMostFourStates();
        theOldestIsDropped();
        fullManyTimes();
        undoRestoresTheLatest();
        undoIsNoAct();
        eachActRecords();
        noActRecordsNothing();
        noneRecordsNothing();
        snapshotIsEmptyAtFirst();
        oneSnapshot();
        snapshotOfNoLots();
        theSnapshotStays();
        restoreIsAnAct();
        restoreWithAFullHistory();
        stateIsSettingsToo();
        notTheText();
        notTheHistory();
        notTheSnapshot();
        fullStates();
        eachActWithAFullHistory();
        Checks.finish();
    }

    private static void emptyHistory() {
        FacingPlates x = new FacingPlates();
        Checks.due("no states", 0, x.count(15));
        Checks.due("undo of nothing", NONE, x.undo());
        Checks.due("undo of nothing again", NONE, x.undo());
        Checks.due("still no states", 0, x.count(15));
        Checks.due("the first act", 0, x.add(1, 0));
        Checks.due("one state", 1, x.count(15));
        Checks.due("none is left", 0, x.undo());
        Checks.due("undo of nothing", NONE, x.undo());
        Checks.state("as new", x, AT_FIRST);
    }

    /** "A history of at most 4 states is kept" */
    private static void atMostFourStates() {
        FacingPlates x = new FacingPlates();
        for (int acts = 1; acts <= 12; acts++) {
            Checks.due("add", acts - 1, x.add(1, 0));
            Checks.due("states", acts < 4 ? acts : 4, x.count(15));
        }
        for (int left = 3; left >= 0; left--) {
            Checks.due("undo", left, x.undo());
            Checks.due("states", left, x.count(15));
        }
        Checks.due("a fifth undo", NONE, x.undo());
        Checks.due("four were taken back", 8, x.count(0));
    }

    /** "when one more is recorded, the oldest one is dropped" */
    private static void theOldestIsDropped() {
        for (int acts = 4; acts <= 6; acts++) {
            FacingPlates x = new FacingPlates();
            for (int i = 1; i <= acts; i++) {
                x.set(4, i);
            }
            for (int i = acts - 1; i >= acts - 4; i--) {
                Checks.due("undo", i - acts + 4, x.undo());
                Checks.due("setting behind undo", i == 0 ? 100 : i, x.count(14));
            }
            Checks.due("no older one", NONE, x.undo());
            Checks.due("setting", acts == 4 ? 100 : acts - 4, x.count(14));
        }
    }

    private static void fullManyTimes() {
        FacingPlates x = new FacingPlates();
        int value = 100;
        for (int round = 0; round < 20; round++) {
            for (int i = 0; i < 5; i++) {
                value++;
                Checks.due("set", value - 1, x.set(4, value));
            }
            Checks.due("undo", 3, x.undo());
            Checks.due("undo", 2, x.undo());
            value -= 2;
            Checks.due("setting", value, x.count(14));
        }
        Checks.due("undo", 1, x.undo());
        Checks.due("undo", 0, x.undo());
        Checks.due("setting", value - 2, x.count(14));
        Checks.due("undo", NONE, x.undo());
    }

    /** "undo() removes and restores the latest one" */
    private static void undoRestoresTheLatest() {
        FacingPlates x = Checks.loaded("2b@1+,3c@3");
        x.remove(0);
        x.set(3, 7);
        x.add(1, 1);
        Checks.due("undo", 3, x.undo());
        Checks.state("ahead of add", x, "3c@3 8 10 20 7 100");
        Checks.due("undo", 2, x.undo());
        Checks.state("ahead of set", x, "3c@3" + AT_FIRST);
        Checks.due("another act", 1, x.add(3, 0));
        Checks.due("undo", 2, x.undo());
        Checks.state("ahead of the other act", x, "3c@3" + AT_FIRST);
        Checks.due("undo", 1, x.undo());
        Checks.state("ahead of remove", x, "2b@1+,3c@3" + AT_FIRST);
        Checks.due("undo", 0, x.undo());
        Checks.state("ahead of load", x, AT_FIRST);
    }

    /** Of undo() the document does not say that it is an act. */
    private static void undoIsNoAct() {
        FacingPlates x = new FacingPlates();
        x.add(1, 0);
        x.add(2, 0);
        Checks.due("undo", 1, x.undo());
        Checks.due("undo again goes on", 0, x.undo());
        Checks.due("no lots", 0, x.count(0));
        Checks.due("no way back", NONE, x.undo());
    }

    /** "Each call of a method that is described as an act, and returns no error and not NONE, records the state ..." */
    private static void eachActRecords() {
        FacingPlates x = Checks.typed("1,2b");
        x.keep();
        Checks.due("load", 2, x.load());
        records(x, "load", AT_FIRST);
        x.load();
        String state = "1,2b@0" + AT_FIRST;
        Checks.due("add", 2, x.add(3, 2));
        records(x, "add", state);
        Checks.due("remove", 1, x.remove(0));
        records(x, "remove", state);
        Checks.due("change", 2, x.change(1, 1, 0));
        records(x, "change", state);
        Checks.due("move", 20, x.move(1, 0));
        records(x, "move", state);
        Checks.due("choose", 20, x.choose(1, false, 2));
        records(x, "choose", state);
        x.choose(1, true, 0);
        Checks.due("plan", 20, x.plan());
        records(x, "plan", "1,2b@0+" + AT_FIRST);
        Checks.due("set", 8, x.set(0, 4));
        records(x, "set", "1,2b@0+" + AT_FIRST);
        Checks.due("restore", 0, x.restore());
        records(x, "restore", "1,2b@0+" + AT_FIRST);
    }

    private static void records(FacingPlates x, String act, String before) {
        int states = x.count(15);
        Checks.due("undo of " + act, states - 1, x.undo());
        Checks.state("undo of " + act, x, before);
    }

    private static void noActRecordsNothing() {
        FacingPlates x = Checks.loaded("1,2b");
        x.type('1');
        x.clearText();
        x.keep();
        x.ifChosen(1, true, 1);
        x.cheapest(1, 1);
        x.leastCost(4);
        x.count(9);
        x.lot(1, 7);
        x.page(1, 1);
        x.gathering(0, 1);
        Checks.due("states", 1, x.count(15));
        x.undo();
        Checks.state("undo", x, AT_FIRST);
    }

    private static void noneRecordsNothing() {
        FacingPlates x = Checks.loaded("2b@1");
        Checks.due("restore", NONE, x.restore());
        Checks.due("change", NONE, x.change(0, 2, 1));
        Checks.due("move", NONE, x.move(0, 0));
        Checks.due("choose", NONE, x.choose(0, false, 1));
        Checks.due("plan", NONE, x.plan());
        Checks.due("set", NONE, x.set(0, 8));
        Checks.due("states", 1, x.count(15));
        x.undo();
        Checks.state("undo", x, AT_FIRST);
        Checks.due("undo", NONE, x.undo());
        Checks.due("states", 0, x.count(15));
    }

    /** "There is one snapshot, empty at first." "NONE if there is no snapshot" */
    private static void snapshotIsEmptyAtFirst() {
        FacingPlates x = new FacingPlates();
        Checks.due("no snapshot", NONE, x.restore());
        x.add(2, 2);
        Checks.due("still no snapshot", NONE, x.restore());
        Checks.state("nothing changes", x, "2c@0" + AT_FIRST);
        Checks.due("no state", 1, x.count(15));
        x.undo();
        Checks.due("no snapshot behind undo", NONE, x.restore());
    }

    /** "Takes a snapshot of the state, in place of the one that was." */
    private static void oneSnapshot() {
        FacingPlates x = new FacingPlates();
        x.add(1, 1);
        Checks.due("keep one", 1, x.keep());
        x.add(2, 2);
        x.choose(1, true, 2);
        Checks.due("keep two", 2, x.keep());
        x.remove(0);
        Checks.due("restore two", 2, x.restore());
        Checks.state("the later one", x, "1b@0,2c@2+" + AT_FIRST);
        x.remove(0);
        x.remove(0);
        Checks.due("keep none", 0, x.keep());
        x.add(3, 0);
        Checks.due("restore none", 0, x.restore());
        Checks.state("no lots", x, AT_FIRST);
    }

    /** A snapshot of a catalogue without lots is a snapshot. */
    private static void snapshotOfNoLots() {
        FacingPlates x = new FacingPlates();
        Checks.due("keep", 0, x.keep());
        Checks.due("restore", 0, x.restore());
        Checks.due("it is an act", 1, x.count(15));
        x.add(1, 0);
        x.set(4, 9);
        Checks.due("restore", 0, x.restore());
        Checks.state("as new", x, AT_FIRST);
    }

    /** "Restores the state of the snapshot, which stays." */
    private static void theSnapshotStays() {
        FacingPlates x = Checks.loaded("1b@1+,2");
        x.keep();
        for (int i = 0; i < 6; i++) {
            x.add(3, 2);
            x.set(3, 50 + i);
            x.choose(0, false, 0);
            Checks.due("restore", 2, x.restore());
            Checks.state("restore", x, "1b@1+,2" + AT_FIRST);
        }
    }

    /** "Restores the state of the snapshot ... This is an act.", even if the state is so already. */
    private static void restoreIsAnAct() {
        FacingPlates x = Checks.loaded("1b@1+,2");
        x.keep();
        Checks.due("restore", 2, x.restore());
        Checks.due("states", 2, x.count(15));
        x.remove(1);
        Checks.due("restore", 2, x.restore());
        Checks.due("states", 4, x.count(15));
        Checks.due("undo", 3, x.undo());
        Checks.state("ahead of restore", x, "1b@1+" + AT_FIRST);
    }

    private static void restoreWithAFullHistory() {
        FacingPlates x = new FacingPlates();
        x.keep();
        for (int i = 1; i <= 4; i++) {
            x.set(4, i);
        }
        Checks.due("full", 4, x.count(15));
        Checks.due("restore", 0, x.restore());
        Checks.due("still full", 4, x.count(15));
        for (int i = 4; i >= 1; i--) {
            Checks.due("undo", i - 1, x.undo());
            Checks.due("setting", i, x.count(14));
        }
        Checks.due("the oldest is gone", NONE, x.undo());
    }

    /** "A state is everything but the text, the history and the snapshot.": lots, choices and settings. */
    private static void stateIsSettingsToo() {
        FacingPlates x = Checks.loaded("1b@1+,2");
        x.keep();
        x.set(0, 4);
        x.set(1, 1);
        x.set(2, 2);
        x.set(3, 3);
        x.set(4, 4);
        Checks.state("settings", x, "1b@1+,2 4 1 2 3 4");
        Checks.due("restore", 2, x.restore());
        Checks.state("restored", x, "1b@1+,2" + AT_FIRST);
        x.undo();
        Checks.state("undo of restore", x, "1b@1+,2 4 1 2 3 4");
        x.undo();
        Checks.state("undo of set", x, "1b@1+,2 4 1 2 3 100");
    }

    private static void notTheText() {
        FacingPlates x = Checks.typed("1");
        x.keep();
        x.load();
        x.type(',');
        x.type('2');
        x.undo();
        Checks.due("undo leaves the text", 3, x.count(16));
        x.restore();
        Checks.due("restore leaves the text", 3, x.count(16));
        Checks.due("the text is whole", 2, x.load());
        x.clearText();
        x.undo();
        Checks.due("undo brings no text back", 0, x.count(16));
        x.restore();
        Checks.due("restore brings no text back", -100, x.load());
    }

    private static void notTheHistory() {
        FacingPlates x = new FacingPlates();
        x.keep();
        x.add(1, 0);
        x.add(1, 1);
        Checks.due("restore", 0, x.restore());
        Checks.due("the history goes on", 3, x.count(15));
        Checks.due("undo", 2, x.undo());
        Checks.due("two lots", 2, x.count(0));
        x.keep();
        x.undo();
        x.undo();
        Checks.due("restore", 2, x.restore());
        Checks.due("one state", 1, x.count(15));
    }

    private static void notTheSnapshot() {
        FacingPlates x = new FacingPlates();
        x.add(1, 0);
        x.keep();
        x.undo();
        Checks.due("undo leaves the snapshot", 1, x.restore());
        x.add(2, 0);
        x.keep();
        x.undo();
        x.undo();
        Checks.due("the later snapshot stays", 2, x.restore());
    }

    /** Whole states of twelve lots, in the history and in the snapshot. */
    private static void fullStates() {
        FacingPlates x = Checks.loaded(TextBoundsTest.FULL_TEXT);
        String full = Checks.write(x);
        Checks.due("keep", 12, x.keep());
        for (int lot = 0; lot < 4; lot++) {
            x.move(11, lot);
        }
        for (int i = 3; i >= 0; i--) {
            x.undo();
        }
        Checks.state("undo of four moves", x, full);
        x.remove(11);
        x.remove(0);
        Checks.due("restore", 12, x.restore());
        Checks.state("restore", x, full);
        x.undo();
        x.undo();
        Checks.due("eleven", 11, x.count(0));
        x.undo();
        Checks.state("undo of remove", x, full);
    }

    /** "when one more is recorded, the oldest one is dropped": by whichever act. */
    private static void eachActWithAFullHistory() {
        dropsTheOldest("add", x -> x.add(1, 0));
        dropsTheOldest("load", x -> x.load());
        dropsTheOldest("remove", x -> x.remove(0));
        dropsTheOldest("change", x -> x.change(0, 3, 0));
        dropsTheOldest("move", x -> x.move(0, 1));
        dropsTheOldest("choose", x -> x.choose(0, true, 1));
        dropsTheOldest("plan", x -> x.plan());
        dropsTheOldest("set", x -> x.set(0, 4));
        dropsTheOldest("restore", x -> x.restore());
    }

    private static void dropsTheOldest(String act, Twins.Call call) {
        FacingPlates x = Checks.loaded("2b,1c");
        x.type('3');
        x.keep();
        for (int i = 1; i <= 5; i++) {
            x.set(3, 10 + i);
        }
        Checks.due(act + " is no error", 1, call.on(x) >= 0 ? 1 : 0);
        Checks.due("states behind " + act, 4, x.count(15));
        for (int i = 5; i >= 2; i--) {
            Checks.due("undo of " + act, i - 2, x.undo());
            Checks.state("undo of " + act, x, "2b@0,1c@0 8 10 20 " + (10 + i) + " 100");
        }
        Checks.due("the oldest is gone behind " + act, NONE, x.undo());
    }
}
