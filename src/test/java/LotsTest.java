/** Promises 1 to 6: a new object, add, load, remove, change, move. */
final class LotsTest {
    private static final String AT_FIRST = " 8 10 20 1 100";

    public static void main(String[] args) {
        newObject();
        add();
        addErrors();
        load();
        loadFaults();
        loadFull();
        remove();
        change();
        changeErrors();
        move();
        Checks.finish();
    }

    private static void newObject() {
        FacingPlates x = new FacingPlates();
        int[] counts = {0, 0, 0, 0, 0, 0, 0, 0, 0, 0, 8, 10, 20, 1, 100, 0, 0};
        for (int what = 0; what < counts.length; what++) {
            Checks.due("new count " + what, counts[what], x.count(what));
        }
        Checks.due("new lot", FacingPlates.UNKNOWN, x.lot(0, 0));
        Checks.due("new page", FacingPlates.UNKNOWN, x.page(1, 0));
        Checks.due("new gathering", FacingPlates.UNKNOWN, x.gathering(0, 0));
        Checks.due("new undo", FacingPlates.NONE, x.undo());
        Checks.due("new restore", FacingPlates.NONE, x.restore());
        Checks.due("new clearText", 0, x.clearText());
        FacingPlates other = new FacingPlates();
        other.add(1, 1);
        Checks.due("objects are apart", 0, x.count(0));
    }

    private static void add() {
        FacingPlates x = new FacingPlates();
        Checks.due("add first", 0, x.add(1, 0));
        Checks.due("add second", 1, x.add(2, 1));
        Checks.due("add third", 2, x.add(3, 2));
        Checks.state("add", x, "1,2b@0,3c@0" + AT_FIRST);
        Checks.due("add is an act", 3, x.count(15));
        x.choose(2, true, 2);
        x.remove(2);
        x.add(3, 2);
        Checks.state("add begins without choices", x, "1,2b@0,3c@0" + AT_FIRST);
    }

    private static void addErrors() {
        FacingPlates x = new FacingPlates();
        int[][] bad = {{0, 0}, {4, 0}, {-1, 0}, {1, -1}, {1, 3}, {Integer.MAX_VALUE, 1}, {2, Integer.MIN_VALUE}};
        for (int[] pair : bad) {
            Checks.due("add bad", FacingPlates.BAD_VALUE, x.add(pair[0], pair[1]));
        }
        for (int i = 0; i < 12; i++) {
            Checks.due("add " + i, i, x.add(3, 2));
        }
        Checks.due("add full", FacingPlates.FULL, x.add(1, 0));
        Checks.due("add bad ahead of full", FacingPlates.BAD_VALUE, x.add(0, 0));
        Checks.due("add bad plate ahead of full", FacingPlates.BAD_VALUE, x.add(1, 3));
        Checks.due("still 12", 12, x.count(0));
        x.undo();
        Checks.due("errors record nothing", 11, x.count(0));
    }

    private static void load() {
        FacingPlates x = new FacingPlates();
        x.add(3, 2);
        x.set(0, 16);
        x.set(3, 7);
        Checks.due("acts", 3, x.count(15));
        Checks.type(x, "1,2b,3c@3+,1b@1,2+");
        Checks.due("load", 5, x.load());
        Checks.state("load", x, "1,2b@0,3c@3+,1b@1,2+ 16 10 20 7 100");
        Checks.due("the text stays", 18, x.count(16));
        Checks.due("load is an act", 4, x.count(15));
        Checks.due("load again", 5, x.load());
        Checks.due("load again is an act", 4, x.count(15));
        x.clearText();
        Checks.type(x, "2");
        Checks.due("load fewer", 1, x.load());
        Checks.state("load fewer", x, "2 16 10 20 7 100");
        x.undo();
        Checks.state("load undone", x, "1,2b@0,3c@3+,1b@1,2+ 16 10 20 7 100");
    }

    private static void loadFaults() {
        String[] texts = {"", "0", "4", "x", ",", "+", "b", " 1", "1,", "1,,", "1 ", "11", "1@0", "1+b", "1++",
            "1bc", "1cb", "1b@", "1c@2", "2c@3", "3c@4", "3b@/", "1b@:", "1b@0@", "1b@0,", "1b+@0", "1b@+", "1B",
            "1b@0+,3,4", "1,2,3c@1,0", "1,2b@3", "2b@-", "1b@10", "1+,", "1-", "1c@0c"};
        int[] faults = {0, 0, 0, 0, 0, 0, 0, 0, 2, 2, 1, 1, 1, 2, 2,
            2, 2, 3, 3, 3, 3, 3, 3, 4, 5, 3, 3, 1,
            8, 9, 5, 3, 4, 3, 1, 4};
        for (int i = 0; i < texts.length; i++) {
            FacingPlates x = Checks.typed(texts[i]);
            Checks.due("fault of '" + texts[i] + "'", -100 - faults[i], x.load());
            Checks.due("no lots of '" + texts[i] + "'", 0, x.count(0));
            Checks.due("no act of '" + texts[i] + "'", 0, x.count(15));
        }
        FacingPlates x = Checks.typed("1,2");
        x.type((char) (256 + ','));
        Checks.due("fault of a far character", -103, x.load());
        x.clearText();
        x.type((char) 0xffff);
        Checks.due("fault of the last character", -100, x.load());
        x.clearText();
        x.type((char) 0);
        Checks.due("fault of character 0", -100, x.load());
        x.clearText();
        Checks.type(x, "1b@0");
        x.clearText();
        Checks.type(x, "1b");
        Checks.due("nothing is read behind the end", 1, x.load());
        x.clearText();
        Checks.type(x, "1b@");
        Checks.due("nothing is read behind the end", -103, x.load());
    }

    private static void loadFull() {
        String twelve = "1,1,1,1,1,1,1,1,1,1,1,3c@3+";
        Checks.due("twelve", 12, Checks.typed(twelve).load());
        FacingPlates x = Checks.typed(twelve + ",2");
        x.add(2, 2);
        Checks.due("thirteen", FacingPlates.FULL, x.load());
        Checks.due("thirteen is no act", 1, x.count(15));
        Checks.state("thirteen changes nothing", x, "2c@0" + AT_FIRST);
        x.type(',');
        Checks.due("a fault goes ahead of full", -130, x.load());
        x.clearText();
        for (int i = 0; i < 30; i++) {
            Checks.type(x, "1,");
        }
        Checks.due("60 characters that end too early", -160, x.load());
        x.clearText();
        for (int i = 0; i < 29; i++) {
            Checks.type(x, "1,");
        }
        Checks.type(x, "1+");
        Checks.due("60 characters of 30 lots", FacingPlates.FULL, x.load());
        x.clearText();
        Checks.type(x, "3c@3+,3c@3+,3c@3+,3c@3+,3c@3+,3c@3+,3c@3+,3c@3+,3c@3+,3c@3+");
        Checks.due("ten of the longest", 10, x.load());
    }

    private static void remove() {
        FacingPlates x = Checks.loaded("1,2b@1,3c@2+,1c@1");
        int[] unknown = {-1, 4, 12, Integer.MAX_VALUE, Integer.MIN_VALUE};
        for (int lot : unknown) {
            Checks.due("remove unknown", FacingPlates.UNKNOWN, x.remove(lot));
        }
        Checks.due("remove unknown is no act", 1, x.count(15));
        Checks.due("remove", 3, x.remove(1));
        Checks.state("remove", x, "1,3c@2+,1c@1" + AT_FIRST);
        Checks.due("remove is an act", 2, x.count(15));
        Checks.due("remove first", 2, x.remove(0));
        Checks.due("remove last", 1, x.remove(1));
        Checks.state("remove last", x, "3c@2+" + AT_FIRST);
        Checks.due("remove all", 0, x.remove(0));
        Checks.due("remove of none", FacingPlates.UNKNOWN, x.remove(0));
        Checks.due("without lots there are no gatherings", 0, x.count(5));
    }

    private static void change() {
        FacingPlates x = Checks.loaded("1,3c@3+");
        Checks.due("change", 5, x.change(1, 2, 2));
        Checks.state("the place is cut", x, "1,2c@2+" + AT_FIRST);
        Checks.due("change is an act", 2, x.count(15));
        Checks.due("change plate", 5, x.change(1, 2, 1));
        Checks.state("the place stays", x, "1,2b@2+" + AT_FIRST);
        Checks.due("change longer", 6, x.change(1, 3, 1));
        Checks.state("the place does not grow", x, "1,3b@2+" + AT_FIRST);
        Checks.due("change without plate", 5, x.change(1, 3, 0));
        Checks.state("no place", x, "1,3+" + AT_FIRST);
        Checks.due("change with plate", 6, x.change(1, 3, 1));
        Checks.state("the place is 0 again", x, "1,3b@0+" + AT_FIRST);
        Checks.due("change the first", 7, x.change(0, 2, 0));
        Checks.state("change the first", x, "2,3b@0+" + AT_FIRST);
    }

    private static void changeErrors() {
        FacingPlates x = Checks.loaded("1,3c@3+");
        Checks.due("change unknown", FacingPlates.UNKNOWN, x.change(2, 1, 1));
        Checks.due("change unknown", FacingPlates.UNKNOWN, x.change(-1, 1, 1));
        Checks.due("change unknown ahead of bad", FacingPlates.UNKNOWN, x.change(2, 0, 9));
        int[][] bad = {{0, 0}, {4, 0}, {-1, 2}, {3, -1}, {3, 3}, {Integer.MIN_VALUE, 2}, {3, Integer.MAX_VALUE}};
        for (int[] pair : bad) {
            Checks.due("change bad", FacingPlates.BAD_VALUE, x.change(1, pair[0], pair[1]));
        }
        Checks.due("change none", FacingPlates.NONE, x.change(1, 3, 2));
        Checks.due("change none", FacingPlates.NONE, x.change(0, 1, 0));
        Checks.due("no act", 1, x.count(15));
        Checks.state("nothing changed", x, "1,3c@3+" + AT_FIRST);
    }

    private static void move() {
        FacingPlates x = Checks.loaded("1,2b@1,3c@2+,1c@1,2");
        Checks.due("move up", 2 * 20 + 2 * 20 + 1, x.move(0, 3));
        Checks.state("move up", x, "2b@1,3c@2+,1c@1,1,2" + AT_FIRST);
        Checks.due("move is an act", 2, x.count(15));
        x.move(4, 0);
        Checks.state("move down", x, "2,2b@1,3c@2+,1c@1,1" + AT_FIRST);
        x.move(2, 1);
        Checks.state("move by one", x, "2,3c@2+,2b@1,1c@1,1" + AT_FIRST);
        x.move(1, 4);
        Checks.state("move to the end", x, "2,2b@1,1c@1,1,3c@2+" + AT_FIRST);
        int acts = x.count(15);
        int[][] unknown = {{0, 5}, {5, 0}, {-1, 0}, {0, -1}, {5, 5}, {-1, -1}, {Integer.MAX_VALUE, 0},
            {0, Integer.MIN_VALUE}};
        for (int[] pair : unknown) {
            Checks.due("move unknown", FacingPlates.UNKNOWN, x.move(pair[0], pair[1]));
        }
        Checks.due("move none", FacingPlates.NONE, x.move(2, 2));
        Checks.due("move without act", acts, x.count(15));
        Checks.state("move nothing", x, "2,2b@1,1c@1,1,3c@2+" + AT_FIRST);
    }
}
