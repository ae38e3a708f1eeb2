/** Promises 7 to 9: choose, plan, set; with 18 to 20, which tell of choices: ifChosen, cheapest, leastCost. */
final class ChoicesTest {
    private static final String AT_FIRST = " 8 10 20 1 100";

    public static void main(String[] args) {
        choose();
        chooseErrors();
        plan();
        planOfEqualCosts();
        planOfSides();
        planAlreadySo();
        set();
        setErrors();
        ifChosen();
        cheapest();
        leastCost();
        twelveLots();
        Checks.finish();
    }

    private static void choose() {
        FacingPlates x = Checks.loaded("2c,1");
        Checks.due("cost", 20 + 20, x.count(9));
        Checks.due("choose a blank", 20 + 20 + 1, x.choose(0, true, 0));
        Checks.due("choose is an act", 2, x.count(15));
        Checks.due("choose a place", 20 + 20, x.choose(0, false, 2));
        Checks.state("choose", x, "2c@2,1" + AT_FIRST);
        Checks.due("choose both", 41, x.choose(0, true, 1));
        Checks.state("choose both", x, "2c@1+,1" + AT_FIRST);
        Checks.due("choose without plate", 42, x.choose(1, true, 0));
        Checks.state("choose without plate", x, "2c@1+,1+" + AT_FIRST);
    }

    private static void chooseErrors() {
        FacingPlates x = Checks.loaded("2c@1,3");
        Checks.due("choose unknown", FacingPlates.UNKNOWN, x.choose(2, true, 0));
        Checks.due("choose unknown", FacingPlates.UNKNOWN, x.choose(-1, true, 0));
        Checks.due("choose unknown ahead of bad", FacingPlates.UNKNOWN, x.choose(2, true, -1));
        Checks.due("choose beyond text", FacingPlates.BAD_VALUE, x.choose(0, true, 3));
        Checks.due("choose below 0", FacingPlates.BAD_VALUE, x.choose(0, true, -1));
        Checks.due("choose without plate", FacingPlates.BAD_VALUE, x.choose(1, true, 1));
        Checks.due("choose far", FacingPlates.BAD_VALUE, x.choose(0, true, Integer.MAX_VALUE));
        Checks.due("choose far", FacingPlates.BAD_VALUE, x.choose(0, true, Integer.MIN_VALUE));
        Checks.due("choose none", FacingPlates.NONE, x.choose(0, false, 1));
        Checks.due("choose none", FacingPlates.NONE, x.choose(1, false, 0));
        Checks.due("choose without act", 1, x.count(15));
        Checks.state("choose nothing", x, "2c@1,3" + AT_FIRST);
    }

    private static void plan() {
        FacingPlates x = Checks.loaded("1c");
        Checks.due("a plate cannot face on page 1", 20 + 20 + 1, x.plan());
        Checks.state("plan", x, "1c@0+" + AT_FIRST);
        Checks.due("plan is an act", 2, x.count(15));
        Checks.due("plan again", FacingPlates.NONE, x.plan());
        Checks.due("plan again is no act", 2, x.count(15));
        x = Checks.loaded("3c@3+,3");
        Checks.due("plan takes a blank away", 40, x.plan());
        Checks.state("plan takes a blank away", x, "3c@1,3" + AT_FIRST);
        x = Checks.loaded("3b@3");
        Checks.due("plan of a place alone", 20, x.plan());
        Checks.state("plan of a place alone", x, "3b@1" + AT_FIRST);
        x = Checks.loaded("1,1c,1c,1c");
        x.set(0, 4);
        x.set(2, 99);
        Checks.due("plan saves a side by blanks and a gathering", 3 * 20 + 2 * 99 + 2, x.plan());
        Checks.state("plan saves a side", x, "1+,1c@1+,1c@0,1c@0 4 10 99 1 100");
        Checks.due("all face", 3, x.count(3));
    }

    /** Of equal costs the first lot goes without a blank, then with the lower place of its plate. */
    private static void planOfEqualCosts() {
        FacingPlates x = Checks.loaded("2b,2b,2,1b");
        x.set(3, 0);
        Checks.due("all free", 40, x.plan());
        Checks.state("blanks are free", x, "2b@1,2b@0,2,1b@0+ 8 10 20 0 100");
        x = Checks.loaded("3,3b@3+");
        Checks.due("a lower place", 20, x.plan());
        Checks.state("a lower place", x, "3,3b@0" + AT_FIRST);
        x = Checks.loaded("3+,2");
        Checks.due("no blank that nobody needs", 20, x.plan());
        Checks.state("no blank that nobody needs", x, "3,2" + AT_FIRST);
        x = Checks.loaded("1,1,1b,1");
        x.set(3, 0);
        x.plan();
        Checks.state("the later lot has the blank", x, "1,1,1b@0+,1 8 10 20 0 100");
        x = Checks.loaded("2,1,1b,1b");
        x.plan();
        Checks.state("the later lot has the blank", x, "2,1,1b@0,1b@0" + AT_FIRST);
    }

    /** A side that is in colour is paid once, in its gathering alone. */
    private static void planOfSides() {
        FacingPlates x = Checks.loaded("1,2c,1,1c,1c");
        x.set(0, 4);
        Checks.due("two blanks cheaper than a side", 3 * 20 + 2 * 20 + 2, x.leastCost(4));
        x.set(3, 30);
        Checks.due("blanks dearer than a side", 3 * 20 + 3 * 20, x.leastCost(4));
        x.set(0, 8);
        Checks.due("blanks dearer than a side of 8 pages", 2 * 20 + 2 * 20, x.leastCost(8));
        x.plan();
        Checks.due("blanks dearer than a side of 8 pages", 2 * 20 + 2 * 20, x.count(9));
        x = Checks.loaded("3,2c,1,1c");
        x.set(0, 4);
        x.set(3, 30);
        Checks.due("a blank dearer than a side", 2 * 20 + 2 * 20, x.leastCost(4));
        Checks.due("one side of 8 pages", 40 + 20, x.leastCost(8));
    }

    private static void planAlreadySo() {
        FacingPlates x = new FacingPlates();
        Checks.due("plan of no lots", FacingPlates.NONE, x.plan());
        x.add(3, 0);
        Checks.due("plan without plates", FacingPlates.NONE, x.plan());
        Checks.due("plan of none is no act", 1, x.count(15));
    }

    private static void set() {
        FacingPlates x = Checks.loaded("1c");
        Checks.due("size", 8, x.set(0, 4));
        Checks.due("size 16", 4, x.set(0, 16));
        Checks.due("size 8", 16, x.set(0, 8));
        Checks.due("gathering", 10, x.set(1, 99));
        Checks.due("gathering cost", 99 + 10 + 20, x.count(9));
        Checks.due("side", 20, x.set(2, 0));
        Checks.due("side cost", 99 + 10, x.count(9));
        Checks.due("blank", 1, x.set(3, 99));
        Checks.due("blank cost", 99 + 10 + 99, x.choose(0, true, 0));
        Checks.due("copies", 100, x.set(4, 999));
        Checks.due("copies cost", 99 + 99 + 99, x.count(9));
        Checks.due("copies to 9", 999, x.set(4, 9));
        Checks.due("copies are rounded down", 99 + 99, x.count(9));
        Checks.due("copies to 0", 9, x.set(4, 0));
        Checks.due("gathering 0", 99, x.set(1, 0));
        Checks.due("gathering at 0", 99, x.count(9));
        Checks.due("side 99", 0, x.set(2, 99));
        Checks.due("blank 0", 99, x.set(3, 0));
        Checks.state("set", x, "1c@0+ 8 0 99 0 0");
        x = new FacingPlates();
        x.set(4, 5);
        Checks.due("set is an act", 1, x.count(15));
    }

    private static void setErrors() {
        FacingPlates x = new FacingPlates();
        int[] unknown = {-1, 5, Integer.MAX_VALUE, Integer.MIN_VALUE};
        for (int which : unknown) {
            Checks.due("set unknown", FacingPlates.UNKNOWN, x.set(which, 4));
            Checks.due("set unknown ahead of bad", FacingPlates.UNKNOWN, x.set(which, -1));
        }
        int[][] bad = {{0, 0}, {0, 5}, {0, 12}, {0, 2}, {0, 32}, {0, -4}, {1, -1}, {1, 100}, {2, -1}, {2, 100},
            {3, -1}, {3, 100}, {4, -1}, {4, 1000}, {1, Integer.MAX_VALUE}, {4, Integer.MIN_VALUE}};
        for (int[] pair : bad) {
            Checks.due("set bad " + pair[0], FacingPlates.BAD_VALUE, x.set(pair[0], pair[1]));
        }
        int[] first = {8, 10, 20, 1, 100};
        for (int which = 0; which < 5; which++) {
            Checks.due("set none " + which, FacingPlates.NONE, x.set(which, first[which]));
        }
        Checks.due("set without act", 0, x.count(15));
        Checks.state("set nothing", x, AT_FIRST);
    }

    private static void ifChosen() {
        FacingPlates x = Checks.loaded("3c,3b@1");
        Checks.due("a gathering more", 61, x.ifChosen(1, true, 3));
        Checks.due("a plate that does not face", 60 - 20, x.ifChosen(0, false, 3));
        Checks.due("the choice that is", 40, x.ifChosen(0, false, 0));
        x.set(2, 33);
        x.set(3, 5);
        Checks.due("settings count", 20 + 20 + 33 + 5, x.ifChosen(0, true, 2));
        Checks.due("no act", 3, x.count(15));
        Checks.state("nothing changed", x, "3c@0,3b@1 8 10 33 5 100");
        Checks.due("unknown", FacingPlates.UNKNOWN, x.ifChosen(2, false, 0));
        Checks.due("unknown", FacingPlates.UNKNOWN, x.ifChosen(-1, false, 0));
        Checks.due("unknown ahead of bad", FacingPlates.UNKNOWN, x.ifChosen(2, false, 9));
        Checks.due("bad", FacingPlates.BAD_VALUE, x.ifChosen(0, false, 4));
        Checks.due("bad", FacingPlates.BAD_VALUE, x.ifChosen(0, false, -1));
        x.change(0, 3, 0);
        Checks.due("bad without plate", FacingPlates.BAD_VALUE, x.ifChosen(0, false, 1));
        Checks.due("without plate", 25, x.ifChosen(0, true, 0));
    }

    private static void cheapest() {
        FacingPlates x = Checks.loaded("1c@1,2,3b@3");
        Checks.due("blank of 0", 1, x.cheapest(0, 0));
        Checks.due("place of 0", 0, x.cheapest(0, 1));
        Checks.due("blank of 1", 0, x.cheapest(1, 0));
        Checks.due("place of 1", FacingPlates.NONE, x.cheapest(1, 1));
        Checks.due("blank of 2", 0, x.cheapest(2, 0));
        Checks.due("place of 2", 0, x.cheapest(2, 1));
        Checks.due("unknown", FacingPlates.UNKNOWN, x.cheapest(3, 0));
        Checks.due("unknown", FacingPlates.UNKNOWN, x.cheapest(-1, 0));
        Checks.due("unknown ahead of bad", FacingPlates.UNKNOWN, x.cheapest(3, 2));
        Checks.due("bad", FacingPlates.BAD_VALUE, x.cheapest(0, 2));
        Checks.due("bad", FacingPlates.BAD_VALUE, x.cheapest(1, -1));
        Checks.due("no act", 1, x.count(15));
        Checks.state("nothing changed", x, "1c@1,2,3b@3" + AT_FIRST);
    }

    private static void leastCost() {
        FacingPlates x = Checks.loaded("3c@3,3c@3,3c@3,3c@3");
        x.set(1, 30);
        Checks.due("least of 4", 4 * 40 + 4 * 20, x.leastCost(4));
        Checks.due("least of 8", 2 * 40 + 2 * 20, x.leastCost(8));
        Checks.due("least of 16", 40 + 20, x.leastCost(16));
        int[] bad = {0, 1, 2, 12, 5, 32, -4, -8, Integer.MAX_VALUE, Integer.MIN_VALUE};
        for (int size : bad) {
            Checks.due("least of " + size, FacingPlates.BAD_VALUE, x.leastCost(size));
        }
        Checks.due("no act", 2, x.count(15));
        Checks.state("nothing changed", x, "3c@3,3c@3,3c@3,3c@3 8 30 20 1 100");
        Checks.due("least of no lots", 0, new FacingPlates().leastCost(16));
    }

    private static void twelveLots() {
        FacingPlates x = Checks.loaded("1,1,1,1,1,1,1,1,1,1,1,1");
        x.set(3, 0);
        Checks.due("free blanks need gatherings", 2 * 20, x.leastCost(8));
        Checks.due("free blanks need gatherings", 3 * 20, x.leastCost(4));
        Checks.due("no blanks though they are free", FacingPlates.NONE, x.plan());
        x = Checks.loaded("1b,1b,1b,1b,1b,1b,1b,1b,1b,1b,1b,1b");
        x.set(0, 4);
        Checks.due("one blank for twelve", 7 * 20 + 1, x.plan());
        Checks.due("all twelve face", 12, x.count(3));
        x = new FacingPlates();
        for (int lot = 0; lot < 12; lot++) {
            x.add(3, 2);
        }
        x.set(1, 0);
        x.set(4, 0);
        x.set(3, 99);
        Checks.due("the whole of twelve", 6 * 20, x.leastCost(8));
    }
}
