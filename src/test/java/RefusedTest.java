/**
 * "Errors are reported by the constants below. Where several errors can apply, the order of the @return line is the
 * order of the checks. NONE is no error; it is returned only if no error applies. A call that returns an error or
 * NONE changes nothing."
 */
final class RefusedTest {
    private static final int UNKNOWN = FacingPlates.UNKNOWN;
    private static final int BAD_VALUE = FacingPlates.BAD_VALUE;
    private static final int FULL = FacingPlates.FULL;
    private static final int NONE = FacingPlates.NONE;

    public static void main(String[] args) {
        ofANewObject();
        ofLots();
        ofChoices();
        ofSettings();
        ofNone();
        ofTheTold();
        ofAFullObject();
        ofAFullText();
        ofFarNumbers();
        whatIsToldChangesNothing();
        theTextAndTheSnapshotAreNoState();
        errorsInTheirOrder();
        noneBehindErrors();
        Checks.finish();
    }

    private static void anew(FacingPlates x) {
        Checks.due("a new object", 0, x.count(0));
    }

    /** Lots with and without plates and blanks, two states, a snapshot of another state, a text of three lots. */
    private static void ordinary(FacingPlates x) {
        Checks.type(x, "2c@2+,1");
        x.load();
        x.keep();
        x.add(3, 1);
        x.clearText();
        Checks.type(x, "3,2b@1+,1c");
        x.undo();
        x.set(3, 5);
        Checks.state("ordinary", x, "2c@2+,1 8 10 20 5 100");
        Checks.due("states", 2, x.count(15));
    }

    /** Twelve lots, 60 characters, four states and a snapshot. */
    private static void full(FacingPlates x) {
        Checks.type(x, TextBoundsTest.FULL_TEXT);
        x.load();
        x.set(4, 999);
        x.keep();
        x.move(0, 11);
        x.set(0, 16);
        x.choose(0, false, 2);
        x.remove(3);
        x.add(2, 2);
        Checks.due("lots", 12, x.count(0));
        Checks.due("states", 4, x.count(15));
        Checks.due("characters", 60, x.count(16));
    }

    private static void ofANewObject() {
        Twins.noTrace("add", RefusedTest::anew, BAD_VALUE, x -> x.add(0, 0));
        Twins.noTrace("load", RefusedTest::anew, -100, x -> x.load());
        Twins.noTrace("remove", RefusedTest::anew, UNKNOWN, x -> x.remove(0));
        Twins.noTrace("change", RefusedTest::anew, UNKNOWN, x -> x.change(0, 1, 1));
        Twins.noTrace("move", RefusedTest::anew, UNKNOWN, x -> x.move(0, 0));
        Twins.noTrace("choose", RefusedTest::anew, UNKNOWN, x -> x.choose(0, true, 0));
        Twins.noTrace("plan", RefusedTest::anew, NONE, x -> x.plan());
        Twins.noTrace("set", RefusedTest::anew, NONE, x -> x.set(0, 8));
        Twins.noTrace("undo", RefusedTest::anew, NONE, x -> x.undo());
        Twins.noTrace("restore", RefusedTest::anew, NONE, x -> x.restore());
        Twins.noTrace("ifChosen", RefusedTest::anew, UNKNOWN, x -> x.ifChosen(0, true, 0));
        Twins.noTrace("cheapest", RefusedTest::anew, UNKNOWN, x -> x.cheapest(0, 0));
        Twins.noTrace("leastCost", RefusedTest::anew, BAD_VALUE, x -> x.leastCost(7));
        Twins.noTrace("clearText", RefusedTest::anew, 0, x -> x.clearText());
    }

    private static void ofLots() {
        Twins.noTrace("add text", RefusedTest::ordinary, BAD_VALUE, x -> x.add(4, 1));
        Twins.noTrace("add plate", RefusedTest::ordinary, BAD_VALUE, x -> x.add(1, 3));
        Twins.noTrace("remove", RefusedTest::ordinary, UNKNOWN, x -> x.remove(2));
        Twins.noTrace("remove", RefusedTest::ordinary, UNKNOWN, x -> x.remove(-1));
        Twins.noTrace("change lot", RefusedTest::ordinary, UNKNOWN, x -> x.change(2, 1, 1));
        Twins.noTrace("change text", RefusedTest::ordinary, BAD_VALUE, x -> x.change(0, 0, 2));
        Twins.noTrace("change text", RefusedTest::ordinary, BAD_VALUE, x -> x.change(1, 4, 0));
        Twins.noTrace("change plate", RefusedTest::ordinary, BAD_VALUE, x -> x.change(0, 2, 3));
        Twins.noTrace("change plate", RefusedTest::ordinary, BAD_VALUE, x -> x.change(0, 1, -1));
        Twins.noTrace("move lot", RefusedTest::ordinary, UNKNOWN, x -> x.move(2, 0));
        Twins.noTrace("move to", RefusedTest::ordinary, UNKNOWN, x -> x.move(0, 2));
        Twins.noTrace("move to", RefusedTest::ordinary, UNKNOWN, x -> x.move(1, -1));
        Twins.noTrace("load fault", RefusedTest::withFault, -104, x -> x.load());
    }

    private static void withFault(FacingPlates x) {
        ordinary(x);
        x.clearText();
        Checks.type(x, "3c@34,1");
    }

    private static void ofChoices() {
        Twins.noTrace("choose lot", RefusedTest::ordinary, UNKNOWN, x -> x.choose(2, true, 0));
        Twins.noTrace("choose lot", RefusedTest::ordinary, UNKNOWN, x -> x.choose(-1, false, 0));
        Twins.noTrace("choose place", RefusedTest::ordinary, BAD_VALUE, x -> x.choose(0, false, 3));
        Twins.noTrace("choose place", RefusedTest::ordinary, BAD_VALUE, x -> x.choose(0, false, -1));
        Twins.noTrace("choose no place", RefusedTest::ordinary, BAD_VALUE, x -> x.choose(1, true, 1));
        Twins.noTrace("ifChosen lot", RefusedTest::ordinary, UNKNOWN, x -> x.ifChosen(2, true, 0));
        Twins.noTrace("ifChosen place", RefusedTest::ordinary, BAD_VALUE, x -> x.ifChosen(0, false, 3));
        Twins.noTrace("ifChosen no place", RefusedTest::ordinary, BAD_VALUE, x -> x.ifChosen(1, true, 1));
        Twins.noTrace("cheapest lot", RefusedTest::ordinary, UNKNOWN, x -> x.cheapest(2, 0));
        Twins.noTrace("cheapest what", RefusedTest::ordinary, BAD_VALUE, x -> x.cheapest(0, 2));
        Twins.noTrace("cheapest none", RefusedTest::ordinary, NONE, x -> x.cheapest(1, 1));
        Twins.noTrace("leastCost", RefusedTest::ordinary, BAD_VALUE, x -> x.leastCost(12));
    }

    private static void ofSettings() {
        Twins.noTrace("set 5", RefusedTest::ordinary, UNKNOWN, x -> x.set(5, 8));
        Twins.noTrace("set -1", RefusedTest::ordinary, UNKNOWN, x -> x.set(-1, 8));
        Twins.noTrace("set size", RefusedTest::ordinary, BAD_VALUE, x -> x.set(0, 12));
        for (int which = 1; which <= 4; which++) {
            int setting = which;
            Twins.noTrace("set below", RefusedTest::ordinary, BAD_VALUE, x -> x.set(setting, -1));
            Twins.noTrace("set above", RefusedTest::ordinary, BAD_VALUE, x -> x.set(setting, setting == 4 ? 1000 : 100));
        }
    }

    private static void ofNone() {
        Twins.noTrace("change", RefusedTest::ordinary, NONE, x -> x.change(0, 2, 2));
        Twins.noTrace("move", RefusedTest::ordinary, NONE, x -> x.move(1, 1));
        Twins.noTrace("choose", RefusedTest::ordinary, NONE, x -> x.choose(0, true, 2));
        Twins.noTrace("plan", RefusedTest::planned, NONE, x -> x.plan());
        Twins.noTrace("set", RefusedTest::ordinary, NONE, x -> x.set(3, 5));
        Twins.noTrace("undo", RefusedTest::undone, NONE, x -> x.undo());
        Twins.noTrace("restore", RefusedTest::withoutSnapshot, NONE, x -> x.restore());
    }

    private static void planned(FacingPlates x) {
        ordinary(x);
        Checks.due("plan", 40, x.plan());
    }

    private static void undone(FacingPlates x) {
        ordinary(x);
        x.undo();
        Checks.due("the last undo", 0, x.undo());
    }

    private static void withoutSnapshot(FacingPlates x) {
        Checks.type(x, "1b,2");
        x.load();
        x.add(3, 2);
    }

    private static void ofTheTold() {
        Twins.noTrace("lot", RefusedTest::ordinary, UNKNOWN, x -> x.lot(2, 0));
        Twins.noTrace("lot what", RefusedTest::ordinary, BAD_VALUE, x -> x.lot(0, 8));
        Twins.noTrace("lot none", RefusedTest::ordinary, NONE, x -> x.lot(1, 3));
        Twins.noTrace("page", RefusedTest::ordinary, UNKNOWN, x -> x.page(9, 0));
        Twins.noTrace("page what", RefusedTest::ordinary, BAD_VALUE, x -> x.page(1, 5));
        Twins.noTrace("page none", RefusedTest::ordinary, NONE, x -> x.page(8, 4));
        Twins.noTrace("gathering", RefusedTest::ordinary, UNKNOWN, x -> x.gathering(1, 0));
        Twins.noTrace("gathering what", RefusedTest::ordinary, BAD_VALUE, x -> x.gathering(0, 6));
        Twins.noTrace("count", RefusedTest::ordinary, BAD_VALUE, x -> x.count(17));
    }

    private static void ofAFullObject() {
        Twins.noTrace("add", RefusedTest::full, FULL, x -> x.add(1, 0));
        Twins.noTrace("add bad", RefusedTest::full, BAD_VALUE, x -> x.add(0, 0));
        Twins.noTrace("type", RefusedTest::full, FULL, x -> x.type('?'));
        Twins.noTrace("remove", RefusedTest::full, UNKNOWN, x -> x.remove(12));
        Twins.noTrace("change", RefusedTest::full, UNKNOWN, x -> x.change(12, 1, 1));
        Twins.noTrace("change bad", RefusedTest::full, BAD_VALUE, x -> x.change(11, 4, 1));
        Twins.noTrace("change none", RefusedTest::full, NONE, x -> x.change(11, 2, 2));
        Twins.noTrace("move lot", RefusedTest::full, UNKNOWN, x -> x.move(12, 11));
        Twins.noTrace("move to", RefusedTest::full, UNKNOWN, x -> x.move(11, 12));
        Twins.noTrace("move none", RefusedTest::full, NONE, x -> x.move(11, 11));
        Twins.noTrace("choose", RefusedTest::full, UNKNOWN, x -> x.choose(12, true, 0));
        Twins.noTrace("choose bad", RefusedTest::full, BAD_VALUE, x -> x.choose(11, true, 3));
        Twins.noTrace("choose none", RefusedTest::full, NONE, x -> x.choose(11, false, 0));
        Twins.noTrace("set bad", RefusedTest::full, BAD_VALUE, x -> x.set(4, 1000));
        Twins.noTrace("set none", RefusedTest::full, NONE, x -> x.set(4, 999));
    }

    private static void ofAFullText() {
        Twins.noTrace("thirteen lots", RefusedTest::withTooMany, FULL, x -> x.load());
        Twins.noTrace("too many and a fault", RefusedTest::withTooManyAndAFault, -159, x -> x.load());
    }

    private static void withTooMany(FacingPlates x) {
        fullWithText(x, TextBoundsTest.TOO_MANY);
    }

    private static void withTooManyAndAFault(FacingPlates x) {
        fullWithText(x, TextBoundsTest.TOO_MANY.substring(0, 59) + "0");
    }

    private static void fullWithText(FacingPlates x, String text) {
        Checks.type(x, text);
        x.keep();
        for (int lot = 0; lot < 12; lot++) {
            x.add(1 + lot % 3, lot % 2);
        }
        Checks.due("states", 4, x.count(15));
        Checks.due("characters", 60, x.count(16));
    }

    /** The least and the greatest int, and those that wrap around. */
    private static void ofFarNumbers() {
        for (int far : Checks.FAR) {
            Twins.noTrace("add", RefusedTest::ordinary, BAD_VALUE, x -> x.add(far, far));
            Twins.noTrace("remove", RefusedTest::ordinary, UNKNOWN, x -> x.remove(far));
            Twins.noTrace("change", RefusedTest::ordinary, UNKNOWN, x -> x.change(far, far, far));
            Twins.noTrace("change", RefusedTest::ordinary, BAD_VALUE, x -> x.change(0, far, far));
            Twins.noTrace("move", RefusedTest::ordinary, UNKNOWN, x -> x.move(far, 0) + x.move(0, far) - UNKNOWN);
            Twins.noTrace("choose", RefusedTest::ordinary, UNKNOWN, x -> x.choose(far, true, far));
            Twins.noTrace("choose", RefusedTest::ordinary, BAD_VALUE, x -> x.choose(0, true, far));
            Twins.noTrace("set", RefusedTest::ordinary, UNKNOWN, x -> x.set(far, far));
            Twins.noTrace("set", RefusedTest::ordinary, BAD_VALUE, x -> x.set(4, far));
            Twins.noTrace("lot", RefusedTest::ordinary, UNKNOWN, x -> x.lot(far, far));
            Twins.noTrace("page", RefusedTest::ordinary, UNKNOWN, x -> x.page(far, far));
            Twins.noTrace("gathering", RefusedTest::ordinary, UNKNOWN, x -> x.gathering(far, far));
            Twins.noTrace("ifChosen", RefusedTest::ordinary, UNKNOWN, x -> x.ifChosen(far, true, far));
            Twins.noTrace("cheapest", RefusedTest::ordinary, UNKNOWN, x -> x.cheapest(far, far));
            Twins.noTrace("leastCost", RefusedTest::ordinary, BAD_VALUE, x -> x.leastCost(far));
            Twins.noTrace("count", RefusedTest::ordinary, BAD_VALUE, x -> x.count(far));
        }
    }

    /** What is told is no act: neither lots, choices and settings nor history, snapshot and text change by it. */
    private static void whatIsToldChangesNothing() {
        Twins.noTrace("ifChosen", RefusedTest::ordinary, 25, x -> x.ifChosen(0, true, 0) - 20);
        Twins.noTrace("ifChosen of a full object", RefusedTest::full, 1, x -> x.ifChosen(11, true, 2) > 0 ? 1 : 0);
        for (int what = 0; what <= 1; what++) {
            int told = what;
            Twins.noTrace("cheapest", RefusedTest::ordinary, told, x -> x.cheapest(0, told));
            Twins.noTrace("cheapest of a full object", RefusedTest::full, 1, x -> x.cheapest(0, told) >= 0 ? 1 : 0);
        }
        int[] sizes = {4, 8, 16};
        for (int size : sizes) {
            Twins.noTrace("leastCost", RefusedTest::ordinary, 40, x -> x.leastCost(size));
            Twins.noTrace("leastCost of a full object", RefusedTest::full, 1, x -> x.leastCost(size) > 0 ? 1 : 0);
        }
        for (int what = 0; what <= 16; what++) {
            int told = what;
            Twins.noTrace("count", RefusedTest::full, 1, x -> x.count(told) >= 0 ? 1 : 0);
            Twins.noTrace("lot", RefusedTest::full, 1, x -> x.lot(1, told % 8) >= 0 ? 1 : 0);
            Twins.noTrace("page", RefusedTest::full, 1, x -> x.page(2, told % 5) >= 0 ? 1 : 0);
            Twins.noTrace("gathering", RefusedTest::full, 1, x -> x.gathering(1, told % 6) >= 0 ? 1 : 0);
        }
    }

    /** type(), clearText() and keep() record nothing and leave lots, choices and settings as they are. */
    private static void theTextAndTheSnapshotAreNoState() {
        Twins.noTrace("type and clear", RefusedTest::withoutText, 1, x -> x.type('1') * x.clearText());
        Twins.noTrace("keep the same", RefusedTest::kept, 2, x -> x.keep());
    }

    private static void withoutText(FacingPlates x) {
        ordinary(x);
        x.clearText();
    }

    private static void kept(FacingPlates x) {
        ordinary(x);
        Checks.due("keep", 2, x.keep());
    }

    /** "the order of the @return line is the order of the checks" */
    private static void errorsInTheirOrder() {
        FacingPlates x = new FacingPlates();
        full(x);
        Checks.due("add: BAD_VALUE, FULL", BAD_VALUE, x.add(4, 0));
        Checks.due("add: BAD_VALUE, FULL", BAD_VALUE, x.add(1, 3));
        Checks.due("change: UNKNOWN, BAD_VALUE", UNKNOWN, x.change(12, 0, 0));
        Checks.due("change: UNKNOWN, BAD_VALUE", UNKNOWN, x.change(-1, 1, 3));
        Checks.due("choose: UNKNOWN, BAD_VALUE", UNKNOWN, x.choose(12, true, 9));
        Checks.due("set: UNKNOWN, BAD_VALUE", UNKNOWN, x.set(5, 1000));
        Checks.due("lot: UNKNOWN, BAD_VALUE", UNKNOWN, x.lot(12, 8));
        Checks.due("page: UNKNOWN, BAD_VALUE", UNKNOWN, x.page(0, 5));
        Checks.due("gathering: UNKNOWN, BAD_VALUE", UNKNOWN, x.gathering(-1, 6));
        Checks.due("ifChosen: UNKNOWN, BAD_VALUE", UNKNOWN, x.ifChosen(12, true, 9));
        Checks.due("cheapest: UNKNOWN, BAD_VALUE", UNKNOWN, x.cheapest(12, 2));
        FacingPlates y = new FacingPlates();
        withTooManyAndAFault(y);
        Checks.due("load: the fault, FULL", -159, y.load());
    }

    /** "NONE is no error; it is returned only if no error applies." */
    private static void noneBehindErrors() {
        FacingPlates x = Checks.loaded("2b@1,1");
        Checks.due("move", UNKNOWN, x.move(2, 2));
        Checks.due("lot: a number of no plate", NONE, x.lot(1, 3));
        Checks.due("lot: no such number", BAD_VALUE, x.lot(1, 8));
        Checks.due("page: the lot of a blank", NONE, x.page(8, 0));
        Checks.due("page: no such number of a blank", BAD_VALUE, x.page(8, 5));
        Checks.due("cheapest: a place of no plate", NONE, x.cheapest(1, 1));
        Checks.due("cheapest: no such number", BAD_VALUE, x.cheapest(1, 2));
        Checks.due("choose: so already but for the place", BAD_VALUE, x.choose(1, false, 1));
        Checks.due("change: so already but for the plate", BAD_VALUE, x.change(1, 1, 3));
    }
}
