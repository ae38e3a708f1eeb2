import java.util.ArrayList;
import java.util.List;

/** The sentences of promises 1, 2 and 4 to 9 that name a bound, an empty or a full state. */
final class ActsBoundsTest {
    private static final int UNKNOWN = FacingPlates.UNKNOWN;
    private static final int BAD_VALUE = FacingPlates.BAD_VALUE;
    private static final int FULL = FacingPlates.FULL;
    private static final int NONE = FacingPlates.NONE;
    private static final String AT_FIRST = " 8 10 20 1 100";

    public static void main(String[] args) {
        newObject();
        newObjectsAreApart();
        addBehindTheOthers();
        addToTwelve();
        removeEach();
        removeToNone();
        removeUnknown();
        changeCutsThePlace();
        changeWithoutPlate();
        changeTellsPages();
        changeOfOneOnly();
        changeUnknown();
        moveEveryWay();
        moveTellsTheCost();
        moveUnknown();
        moveToItself();
        chooseOfOneOnly();
        choosePlaces();
        chooseWithoutPlate();
        chooseUnknown();
        planOfNoLots();
        planOfOneLot();
        planOfTwelveLots();
        planTwice();
        planOfOtherSizes();
        setUnknown();
        setToTheSame();
        setEachAlone();
        Checks.finish();
    }

    private static FacingPlates twelve() {
        return Checks.loaded("1,2,3,1b,2b@1,3b@2,1c+,2c@2+,3c@3+,1+,2+,3+");
    }

    /** "Creates a catalogue without lots." */
    private static void newObject() {
        FacingPlates x = new FacingPlates();
        Checks.due("remove", UNKNOWN, x.remove(0));
        Checks.due("change", UNKNOWN, x.change(0, 1, 1));
        Checks.due("move", UNKNOWN, x.move(0, 0));
        Checks.due("choose", UNKNOWN, x.choose(0, true, 0));
        Checks.due("plan", NONE, x.plan());
        Checks.due("lot", UNKNOWN, x.lot(0, 0));
        Checks.due("page", UNKNOWN, x.page(1, 0));
        Checks.due("gathering", UNKNOWN, x.gathering(0, 0));
        Checks.due("ifChosen", UNKNOWN, x.ifChosen(0, false, 0));
        Checks.due("cheapest", UNKNOWN, x.cheapest(0, 0));
        Checks.due("leastCost", 0, x.leastCost(4));
        Checks.due("clearText", 0, x.clearText());
        Checks.due("load", -100, x.load());
        Checks.due("undo", NONE, x.undo());
        Checks.due("restore", NONE, x.restore());
        for (int what = 0; what <= 9; what++) {
            Checks.due("count " + what, 0, x.count(what));
        }
        Checks.state("new", x, AT_FIRST);
    }

    private static void newObjectsAreApart() {
        FacingPlates one = new FacingPlates();
        FacingPlates two = new FacingPlates();
        one.add(3, 2);
        one.set(0, 16);
        one.type('1');
        one.keep();
        Checks.state("the other", two, AT_FIRST);
        Checks.due("text of the other", 0, two.count(16));
        Checks.due("history of the other", NONE, two.undo());
        Checks.due("snapshot of the other", NONE, two.restore());
        Checks.state("a third", new FacingPlates(), AT_FIRST);
    }

    /** "Adds a lot behind the others.", without choices, wherever another one was. */
    private static void addBehindTheOthers() {
        FacingPlates x = Checks.loaded("1b@1+,3c@3+");
        Checks.due("add", 2, x.add(2, 1));
        Checks.state("behind", x, "1b@1+,3c@3+,2b@0" + AT_FIRST);
        x.remove(1);
        x.remove(1);
        Checks.due("add", 1, x.add(3, 2));
        Checks.state("without choices", x, "1b@1+,3c@0" + AT_FIRST);
    }

    /** "FULL if there are 12" */
    private static void addToTwelve() {
        FacingPlates x = twelve();
        String state = Checks.write(x);
        Checks.due("full", FULL, x.add(1, 0));
        Checks.due("full", FULL, x.add(3, 2));
        Checks.due("bad text goes ahead", BAD_VALUE, x.add(4, 2));
        Checks.due("bad text goes ahead", BAD_VALUE, x.add(0, 2));
        Checks.due("bad plate goes ahead", BAD_VALUE, x.add(1, 3));
        Checks.due("bad plate goes ahead", BAD_VALUE, x.add(1, -1));
        Checks.state("full", x, state);
        x.remove(11);
        Checks.due("eleven", 11, x.add(3, 0));
        Checks.due("full again", FULL, x.add(1, 0));
    }

    /** "Removes a lot.": the first, one between, the last of twelve. */
    private static void removeEach() {
        String[] lots = {"1", "2", "3", "1b@0", "2b@1", "3b@2", "1c@0+", "2c@2+", "3c@3+", "1+", "2+", "3+"};
        for (int gone = 0; gone < 12; gone++) {
            FacingPlates x = twelve();
            Checks.due("left", 11, x.remove(gone));
            StringBuilder state = new StringBuilder();
            for (int lot = 0; lot < 12; lot++) {
                if (lot != gone) {
                    state.append(state.length() == 0 ? "" : ",").append(lots[lot]);
                }
            }
            Checks.state("without " + gone, x, state + AT_FIRST);
            Checks.due("no lot 11", UNKNOWN, x.lot(11, 0));
        }
    }

    /** "Returns how many are left": to 0. */
    private static void removeToNone() {
        FacingPlates x = twelve();
        for (int left = 11; left >= 0; left--) {
            Checks.due("left", left, x.remove(left / 2));
            Checks.due("lots", left, x.count(0));
        }
        Checks.due("none is left", UNKNOWN, x.remove(0));
        Checks.due("no gatherings", 0, x.count(5));
        Checks.due("no cost", 0, x.count(9));
    }

    private static void removeUnknown() {
        FacingPlates x = twelve();
        Checks.due("12", UNKNOWN, x.remove(12));
        Checks.due("-1", UNKNOWN, x.remove(-1));
        for (int lot : Checks.FAR) {
            Checks.due("far", UNKNOWN, x.remove(lot));
        }
        Checks.due("twelve", 12, x.count(0));
        Checks.due("11 is there", 11, x.remove(11));
        Checks.due("11 is gone", UNKNOWN, x.remove(11));
        Checks.due("0 is there", 10, x.remove(0));
    }

    /** "a place of the plate that is more than the pages of text then becomes as many as these" */
    private static void changeCutsThePlace() {
        for (int text = 1; text <= 3; text++) {
            for (int place = 0; place <= 3; place++) {
                for (int plate = 1; plate <= 2; plate++) {
                    FacingPlates x = Checks.loaded("2,3b@" + place + "+");
                    x.change(1, text, plate);
                    Checks.due("place", Math.min(place, text), x.lot(1, 3));
                    Checks.due("text", text, x.lot(1, 0));
                    Checks.due("plate", plate, x.lot(1, 1));
                    Checks.due("the blank stays", 1, x.lot(1, 2));
                    x.change(1, 3, plate);
                    Checks.due("the place does not come back", Math.min(place, text), x.lot(1, 3));
                }
            }
        }
    }

    /** "without a plate the place is 0" */
    private static void changeWithoutPlate() {
        FacingPlates x = Checks.loaded("3c@3+");
        Checks.due("change", 4, x.change(0, 3, 0));
        Checks.due("no place", NONE, x.lot(0, 3));
        Checks.due("change back", 5, x.change(0, 3, 2));
        Checks.due("place", 0, x.lot(0, 3));
        Checks.due("the blank stays", 1, x.lot(0, 2));
        x.choose(0, true, 2);
        Checks.due("another plate", 5, x.change(0, 3, 1));
        Checks.due("the place stays", 2, x.lot(0, 3));
    }

    /** "Returns how many pages all lots and their blanks have then" */
    private static void changeTellsPages() {
        FacingPlates x = new FacingPlates();
        x.add(1, 0);
        Checks.due("one lot", 2, x.change(0, 2, 0));
        Checks.due("the least", 1, x.change(0, 1, 0));
        for (int lot = 1; lot < 12; lot++) {
            x.add(3, 2);
            x.choose(lot, true, 0);
        }
        Checks.due("the blanks count", 11 * 5 + 4, x.change(0, 3, 1));
        x.choose(0, true, 0);
        Checks.due("the greatest", 60, x.change(0, 3, 2));
        Checks.due("one fewer", 59, x.change(11, 2, 2));
        Checks.due("one fewer", 58, x.change(11, 2, 0));
    }

    /** "NONE if both are so already": one of them is not enough. */
    private static void changeOfOneOnly() {
        FacingPlates x = Checks.loaded("2b@1,1");
        Checks.due("both", NONE, x.change(0, 2, 1));
        Checks.due("both without a plate", NONE, x.change(1, 1, 0));
        Checks.due("no act", 1, x.count(15));
        Checks.due("the same text", 4, x.change(0, 2, 2));
        Checks.due("the same plate", 5, x.change(0, 3, 2));
        Checks.due("acts", 3, x.count(15));
        Checks.due("both", NONE, x.change(0, 3, 2));
    }

    private static void changeUnknown() {
        FacingPlates x = Checks.loaded("2b@1,1");
        Checks.due("2", UNKNOWN, x.change(2, 1, 1));
        Checks.due("-1", UNKNOWN, x.change(-1, 1, 1));
        for (int lot : Checks.FAR) {
            Checks.due("far", UNKNOWN, x.change(lot, 1, 1));
            Checks.due("unknown goes ahead", UNKNOWN, x.change(lot, 0, 3));
        }
        Checks.due("bad goes ahead of none", BAD_VALUE, x.change(0, 2, 3));
        Checks.due("bad goes ahead of none", BAD_VALUE, x.change(1, 4, 0));
        Checks.state("nothing changes", x, "2b@1,1" + AT_FIRST);
        Checks.due("the last lot", 5, x.change(1, 2, 0));
    }

    /** "Moves a lot, with its choices, to another place in the order; those between move up or down." */
    private static void moveEveryWay() {
        String[] lots = {"1", "2b@1+", "3c@3", "1c@0+", "3b@2"};
        for (int lot = 0; lot < 5; lot++) {
            for (int to = 0; to < 5; to++) {
                FacingPlates x = Checks.loaded(String.join(",", lots));
                List<String> order = new ArrayList<>(List.of(lots));
                order.add(to, order.remove(lot));
                x.move(lot, to);
                Checks.state("move " + lot + " to " + to, x, String.join(",", order) + AT_FIRST);
            }
        }
        FacingPlates x = twelve();
        x.move(0, 11);
        Checks.state("to the end", x, "2,3,1b@0,2b@1,3b@2,1c@0+,2c@2+,3c@3+,1+,2+,3+,1" + AT_FIRST);
        x.move(11, 0);
        Checks.state("to the front", x, Checks.write(twelve()));
    }

    /** "Returns the whole cost then" */
    private static void moveTellsTheCost() {
        FacingPlates x = Checks.loaded("1c,2,1c@1+");
        Checks.due("the plates on pages 1 and 7", 20 + 2 * 20 + 1, x.count(9));
        Checks.due("the plates on pages 1 and 5", 20 + 20 + 1, x.move(2, 1));
        Checks.due("the plates on pages 3 and 4", 20 + 2 * 20 + 1, x.move(1, 0));
        Checks.due("the plates on pages 3 and 6", 20 + 20 + 1, x.move(2, 1));
        Checks.due("the cost that is told", 41, x.count(9));
    }

    /** "UNKNOWN (lot or to)" */
    private static void moveUnknown() {
        FacingPlates x = Checks.loaded("1,2b@1");
        int[] just = {-1, 2, 3, 12};
        for (int far : just) {
            Checks.due("lot", UNKNOWN, x.move(far, 0));
            Checks.due("to", UNKNOWN, x.move(0, far));
            Checks.due("unknown goes ahead of none", UNKNOWN, x.move(far, far));
        }
        for (int far : Checks.FAR) {
            Checks.due("lot", UNKNOWN, x.move(far, 1));
            Checks.due("to", UNKNOWN, x.move(1, far));
            Checks.due("unknown goes ahead of none", UNKNOWN, x.move(far, far));
        }
        Checks.state("nothing changes", x, "1,2b@1" + AT_FIRST);
        Checks.due("no act", 1, x.count(15));
    }

    /** "NONE if both are the same" */
    private static void moveToItself() {
        FacingPlates x = twelve();
        String state = Checks.write(x);
        for (int lot = 0; lot < 12; lot++) {
            Checks.due("to itself", NONE, x.move(lot, lot));
        }
        Checks.state("nothing changes", x, state);
        Checks.due("no act", 1, x.count(15));
        Checks.due("12 to itself", UNKNOWN, x.move(12, 12));
    }

    /** "NONE if both are so already": one of them is not enough. */
    private static void chooseOfOneOnly() {
        FacingPlates x = Checks.loaded("2b@1+,1");
        Checks.due("both", NONE, x.choose(0, true, 1));
        Checks.due("both without a plate", NONE, x.choose(1, false, 0));
        Checks.due("no act", 1, x.count(15));
        Checks.due("the same place", 20, x.choose(0, false, 1));
        Checks.due("the same blank", 20, x.choose(0, false, 2));
        Checks.due("acts", 3, x.count(15));
        Checks.due("both", NONE, x.choose(0, false, 2));
        Checks.due("a blank alone", 21, x.choose(1, true, 0));
    }

    /** "0 to its pages of text: the place of its plate" */
    private static void choosePlaces() {
        for (int text = 1; text <= 3; text++) {
            FacingPlates x = Checks.loaded("3c@3," + text + "c");
            Checks.due("above", BAD_VALUE, x.choose(1, true, text + 1));
            Checks.due("below", BAD_VALUE, x.choose(1, true, -1));
            Checks.due("the greatest", 1, x.choose(1, true, text) > 0 ? 1 : 0);
            Checks.due("place", text, x.lot(1, 3));
            Checks.due("above", BAD_VALUE, x.choose(1, true, text + 1));
            Checks.due("the least", 1, x.choose(1, true, 0) > 0 ? 1 : 0);
            Checks.due("place", 0, x.lot(1, 3));
            for (int place : Checks.FAR) {
                Checks.due("far", BAD_VALUE, x.choose(1, true, place));
            }
            Checks.due("place", 0, x.lot(1, 3));
        }
    }

    /** "0 without a plate" */
    private static void chooseWithoutPlate() {
        FacingPlates x = Checks.loaded("3,1");
        for (int place = 1; place <= 4; place++) {
            Checks.due("place " + place, BAD_VALUE, x.choose(0, true, place));
        }
        Checks.due("below", BAD_VALUE, x.choose(0, true, -1));
        Checks.due("0", 21, x.choose(0, true, 0));
        x.change(0, 3, 1);
        Checks.due("1 with a plate", 21, x.choose(0, true, 1));
        x.change(0, 3, 0);
        Checks.due("1 without it", BAD_VALUE, x.choose(0, true, 1));
        Checks.due("0 is so", NONE, x.choose(0, true, 0));
    }

    private static void chooseUnknown() {
        FacingPlates x = Checks.loaded("3b,1c");
        Checks.due("2", UNKNOWN, x.choose(2, true, 0));
        Checks.due("-1", UNKNOWN, x.choose(-1, true, 0));
        for (int lot : Checks.FAR) {
            Checks.due("far", UNKNOWN, x.choose(lot, true, 0));
            Checks.due("unknown goes ahead", UNKNOWN, x.choose(lot, true, -1));
        }
        Checks.state("nothing changes", x, "3b@0,1c@0" + AT_FIRST);
    }

    /** "NONE if they are so already": without lots, and without plates. */
    private static void planOfNoLots() {
        FacingPlates x = new FacingPlates();
        Checks.due("no lots", NONE, x.plan());
        x.add(3, 0);
        Checks.due("no plates", NONE, x.plan());
        x.choose(0, true, 0);
        Checks.due("a blank that nobody needs", 20, x.plan());
        Checks.due("no blank", 0, x.count(8));
        x.remove(0);
        Checks.due("no lots again", NONE, x.plan());
    }

    /** "Makes the cheapest choices for all lots.": each single lot. */
    private static void planOfOneLot() {
        String[] texts = {"1", "2", "3", "1b", "2b", "3b", "1c", "2c", "3c"};
        String[] plans = {"1", "2", "3", "1b@0+", "2b@1", "3b@1", "1c@0+", "2c@1", "3c@1"};
        int[] costs = {NONE, NONE, NONE, 21, 20, 20, 41, 40, 40};
        int[] sizes = {8, 4, 16};
        for (int size : sizes) {
            for (int i = 0; i < texts.length; i++) {
                FacingPlates x = Checks.loaded(texts[i]);
                x.set(0, size);
                Checks.due("plan of " + texts[i], costs[i], x.plan());
                Checks.state("plan of " + texts[i], x, plans[i] + " " + size + " 10 20 1 100");
                Checks.due("so already", NONE, x.plan());
            }
        }
    }

    private static void planOfTwelveLots() {
        FacingPlates x = Checks.loaded("1b,1b,1b,1b,1b,1b,1b,1b,1b,1b,1b,1b");
        Checks.due("24 pages and a blank", 4 * 20 + 1, x.plan());
        Checks.state("the first has the blank", x,
            "1b@0+,1b@0,1b@0,1b@0,1b@0,1b@0,1b@0,1b@0,1b@0,1b@0,1b@0,1b@0" + AT_FIRST);
        x = Checks.loaded("1,1b,1,1b,1,1b,1,1b,1,1b,1,1b");
        x.set(3, 99);
        Checks.due("every plate but the first wants a blank", 3 * 20 + 5 * 99, x.plan());
        Checks.due("all face", 6, x.count(3));
        x = Checks.loaded("3c,3c,3c,3c,3c,3c,3c,3c,3c,3c,3c,3c");
        Checks.due("no blank", 6 * 20 + 6 * 20, x.plan());
        Checks.due("all face", 12, x.count(3));
    }

    private static void planTwice() {
        FacingPlates x = Checks.loaded("1c,3b@3");
        Checks.due("plan", 41, x.plan());
        Checks.due("plan again", NONE, x.plan());
        Checks.due("acts", 2, x.count(15));
        x.undo();
        Checks.state("undo", x, "1c@0,3b@3" + AT_FIRST);
        Checks.due("plan", 41, x.plan());
        x.choose(1, true, 0);
        Checks.due("plan", 41, x.plan());
    }

    /** The cheapest choices are those of the size that is set, also behind leastCost() of another. */
    private static void planOfOtherSizes() {
        FacingPlates x = Checks.loaded("1,1c,1c,1c");
        x.set(0, 4);
        x.set(2, 99);
        Checks.due("of 8", 20 + 2 * 99, x.leastCost(8));
        Checks.due("of 16", 20 + 2 * 99, x.leastCost(16));
        Checks.due("of 4", 3 * 20 + 2 * 99 + 2, x.plan());
        Checks.due("the size stays", 4, x.count(10));
    }

    private static void setUnknown() {
        FacingPlates x = new FacingPlates();
        Checks.due("-1", UNKNOWN, x.set(-1, 8));
        Checks.due("5", UNKNOWN, x.set(5, 8));
        for (int which : Checks.FAR) {
            Checks.due("far", UNKNOWN, x.set(which, 8));
            Checks.due("unknown goes ahead", UNKNOWN, x.set(which, -1));
        }
        Checks.state("nothing changes", x, AT_FIRST);
        Checks.due("4 is a setting", 100, x.set(4, 8));
    }

    /** "NONE if it is so already" */
    private static void setToTheSame() {
        FacingPlates x = new FacingPlates();
        int[][] values = {{4, 16, 8}, {0, 99, 10}, {0, 99, 20}, {0, 99, 1}, {0, 999, 100}};
        for (int which = 0; which <= 4; which++) {
            for (int value : values[which]) {
                int before = x.count(10 + which);
                Checks.due("set", before, x.set(which, value));
                int states = x.count(15);
                Checks.due("set again", NONE, x.set(which, value));
                Checks.due("no act", states, x.count(15));
            }
        }
    }

    /** "Sets a setting.": that one alone. */
    private static void setEachAlone() {
        int[] values = {16, 11, 21, 2, 101};
        for (int which = 0; which <= 4; which++) {
            FacingPlates x = Checks.loaded("1b@1+");
            int[] want = {8, 10, 20, 1, 100};
            Checks.due("previous", want[which], x.set(which, values[which]));
            want[which] = values[which];
            StringBuilder state = new StringBuilder("1b@1+");
            for (int setting : want) {
                state.append(' ').append(setting);
            }
            Checks.state("set " + which, x, state.toString());
        }
    }
}
