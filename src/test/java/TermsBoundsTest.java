/**
 * The sentences under "Terms" that name a bound, an empty or a full state (lots, pages, gatherings, costs, the
 * cheapest choices): what is just inside and just outside. Above each method stands its sentence.
 */
final class TermsBoundsTest {
    private static final int UNKNOWN = FacingPlates.UNKNOWN;
    private static final int BAD_VALUE = FacingPlates.BAD_VALUE;
    private static final int FULL = FacingPlates.FULL;
    private static final int NONE = FacingPlates.NONE;
    private static final int[] SIZES = {4, 8, 16};

    public static void main(String[] args) {
        constants();
        allOf512Calls();
        atMostTwelveLots();
        pagesOfText();
        plates();
        aPlateTakesAPage();
        blankAhead();
        placeOfThePlate();
        pagesFromOne();
        spreads();
        theLastPageOfAllGatherings();
        thePageOneIsAlone();
        itsOwnLot();
        sizesOfGatherings();
        blanksThatAreWanting();
        wantingBlanksAreNotPut();
        withoutLots();
        sidesOfASheet();
        sidesInColour();
        blackColoursNoSide();
        rangesOfSettings();
        settingsAtFirst();
        tenthRoundedDown();
        greatestCost();
        leastCostOfAll();
        alwaysPossible();
        lesserChoices();
        blanksForASide();
        blanksForASideOfTwelve();
        blankInTheLastGatheringOfTwelve();
        Checks.finish();
    }

    /** Lots of one to five pages in twelve lots at most; from 49 pages on some have a blank ahead. */
    static FacingPlates withPages(int pages) {
        FacingPlates x = new FacingPlates();
        int lots = Math.min(12, pages);
        for (int lot = 0; lot < lots; lot++) {
            int own = pages / lots + (lot < pages % lots ? 1 : 0);
            x.add(Math.min(own, 3), own > 3 ? 1 : 0);
            if (own == 5) {
                x.choose(lot, true, 0);
            }
        }
        Checks.due("pages of all lots and their blanks", pages, x.count(4));
        return x;
    }

    /** "The constants: UNKNOWN = -1 ..., BAD_VALUE = -2 ..., FULL = -3 ..., NOT_POSSIBLE = -4 ..., NONE = -5" */
    private static void constants() {
        Checks.due("UNKNOWN", -1, FacingPlates.UNKNOWN);
        Checks.due("BAD_VALUE", -2, FacingPlates.BAD_VALUE);
        Checks.due("FULL", -3, FacingPlates.FULL);
        Checks.due("NOT_POSSIBLE", -4, FacingPlates.NOT_POSSIBLE);
        Checks.due("NONE", -5, FacingPlates.NONE);
    }

    /** "An object is used for at most 512 calls after it has been made": the last one answers as the first. */
    private static void allOf512Calls() {
        FacingPlates x = new FacingPlates();
        int previous = 100;
        for (int call = 1; call <= 510; call++) {
            Checks.due("call " + call, previous, x.set(4, 200 + call % 7));
            previous = 200 + call % 7;
        }
        Checks.due("call 511", 3, x.undo());
        Checks.due("call 512", 200 + 509 % 7, x.count(14));
    }

    /** "There are at most 12 lots, numbered from 0 in their order." */
    private static void atMostTwelveLots() {
        FacingPlates x = new FacingPlates();
        Checks.due("there is no lot 0 yet", UNKNOWN, x.lot(0, 0));
        for (int lot = 0; lot < 12; lot++) {
            Checks.due("add " + lot, lot, x.add(1 + lot % 3, 0));
            Checks.due("lot " + lot, 1 + lot % 3, x.lot(lot, 0));
            Checks.due("no lot behind it", UNKNOWN, x.lot(lot + 1, 0));
            Checks.due("no lot ahead of 0", UNKNOWN, x.lot(-1, 0));
        }
        Checks.due("a thirteenth", FULL, x.add(1, 0));
        Checks.due("no thirteenth", UNKNOWN, x.lot(12, 0));
        Checks.due("still twelve", 12, x.count(0));
        x.remove(5);
        Checks.due("room for one more", 11, x.add(2, 2));
        Checks.due("full again", FULL, x.add(2, 2));
        x.undo();
        Checks.due("room behind undo", 11, x.add(3, 1));
        Checks.due("full once more", FULL, x.add(3, 1));
    }

    /** "A lot has 1 to 3 pages of text" */
    private static void pagesOfText() {
        FacingPlates x = new FacingPlates();
        for (int text = 1; text <= 3; text++) {
            Checks.due("add " + text, text - 1, x.add(text, 0));
            Checks.due("text", text, x.lot(text - 1, 0));
        }
        int[] just = {0, 4, -1, 5};
        for (int text : just) {
            Checks.due("add " + text, BAD_VALUE, x.add(text, 0));
            Checks.due("change to " + text, BAD_VALUE, x.change(0, text, 0));
        }
        for (int text : Checks.FAR) {
            Checks.due("add " + text, BAD_VALUE, x.add(text, 0));
            Checks.due("change to " + text, BAD_VALUE, x.change(0, text, 0));
        }
        Checks.due("change to 3", 8, x.change(0, 3, 0));
        Checks.due("change to 1", 6, x.change(0, 1, 0));
        Checks.due("three lots", 3, x.count(0));
    }

    /** "and no plate (0), one in black (1) or one in colour (2)" */
    private static void plates() {
        FacingPlates x = new FacingPlates();
        for (int plate = 0; plate <= 2; plate++) {
            Checks.due("add " + plate, plate, x.add(1, plate));
            Checks.due("plate", plate, x.lot(plate, 1));
        }
        int[] just = {-1, 3, -2, 4};
        for (int plate : just) {
            Checks.due("add " + plate, BAD_VALUE, x.add(1, plate));
            Checks.due("change to " + plate, BAD_VALUE, x.change(0, 1, plate));
        }
        for (int plate : Checks.FAR) {
            Checks.due("add " + plate, BAD_VALUE, x.add(1, plate));
            Checks.due("change to " + plate, BAD_VALUE, x.change(0, 1, plate));
        }
        Checks.due("change to colour", 6, x.change(0, 1, 2));
        Checks.due("change to none", 5, x.change(0, 1, 0));
        Checks.due("three lots", 3, x.count(0));
    }

    /** "a plate takes a page" */
    private static void aPlateTakesAPage() {
        for (int text = 1; text <= 3; text++) {
            for (int plate = 0; plate <= 2; plate++) {
                FacingPlates x = new FacingPlates();
                x.add(text, plate);
                x.add(1, 0);
                int own = plate == 0 ? text : text + 1;
                Checks.due("all pages", own + 1, x.count(4));
                Checks.due("the last of its own pages", 0, x.page(own, 0));
                Checks.due("the first of the next lot", own + 1, x.lot(1, 4));
            }
        }
    }

    /** "whether a blank page is put ahead of it (0 or 1 of them; 0 at first)" */
    private static void blankAhead() {
        FacingPlates x = new FacingPlates();
        x.add(1, 0);
        x.add(2, 1);
        Checks.due("0 at first", 0, x.lot(0, 2));
        Checks.due("0 at first with a plate", 0, x.lot(1, 2));
        x.choose(1, true, 0);
        Checks.due("1 of them", 1, x.lot(1, 2));
        Checks.due("none ahead of the other", 0, x.lot(0, 2));
        Checks.due("a blank ahead of the lot", 0, x.page(2, 1));
        Checks.due("no second one", NONE, x.choose(1, true, 0));
        Checks.due("still 1", 1, x.lot(1, 2));
        Checks.due("5 pages", 5, x.count(4));
        x.choose(1, false, 0);
        Checks.due("0 again", 0, x.lot(1, 2));
        Checks.due("no blank", 2, x.page(2, 1));
    }

    /** "how many of its pages of text are ahead of it (0 to as many as there are; 0 at first)" */
    private static void placeOfThePlate() {
        for (int text = 1; text <= 3; text++) {
            for (int plate = 1; plate <= 2; plate++) {
                FacingPlates x = new FacingPlates();
                x.add(text, plate);
                Checks.due("0 at first", 0, x.lot(0, 3));
                Checks.due("above all", BAD_VALUE, x.choose(0, false, text + 1));
                Checks.due("below 0", BAD_VALUE, x.choose(0, false, -1));
                for (int place = text; place >= 0; place--) {
                    Checks.due("a place that is allowed", 1, x.choose(0, false, place) > 0 ? 1 : 0);
                    Checks.due("place", place, x.lot(0, 3));
                    pagesWithPlateAt(x, text, plate, place);
                }
            }
        }
    }

    private static void pagesWithPlateAt(FacingPlates x, int text, int plate, int place) {
        for (int page = 1; page <= text + 1; page++) {
            Checks.due("page " + page, page == place + 1 ? 1 + plate : 1, x.page(page, 1));
        }
    }

    /** "Pages are numbered from 1, lot by lot." */
    private static void pagesFromOne() {
        FacingPlates x = Checks.loaded("1,3,2c@2,1+,2");
        int[] owners = {0, 1, 1, 1, 2, 2, 2, NONE, 3, 4, 4, NONE};
        Checks.due("page 0", UNKNOWN, x.page(0, 0));
        Checks.due("page -1", UNKNOWN, x.page(-1, 0));
        for (int i = 0; i < owners.length; i++) {
            Checks.due("page " + (i + 1), owners[i], x.page(i + 1, 0));
        }
        int[] firstPages = {1, 2, 5, 9, 10};
        for (int lot = 0; lot < firstPages.length; lot++) {
            Checks.due("first page of " + lot, firstPages[lot], x.lot(lot, 4));
        }
    }

    /** "The pages 2 and 3 are a spread, 4 and 5, and so on; the page 1 is alone, and so is the last one ..." */
    private static void spreads() {
        int[] pages = {1, 4, 5, 16, 17, 60};
        for (int all : pages) {
            FacingPlates x = withPages(all);
            for (int size : SIZES) {
                x.set(0, size);
                int last = (all + size - 1) / size * size;
                Checks.due("1 is alone", NONE, x.page(1, 4));
                for (int page = 2; page < last; page++) {
                    Checks.due("other page of " + page, page % 2 == 0 ? page + 1 : page - 1, x.page(page, 4));
                }
                Checks.due("the last one is alone", NONE, x.page(last, 4));
                Checks.due("there is none behind it", UNKNOWN, x.page(last + 1, 4));
            }
        }
    }

    /** "and so is the last one of all gatherings": not the last one of another, nor the last one of the lots. */
    private static void theLastPageOfAllGatherings() {
        FacingPlates x = Checks.loaded("3b@3");
        Checks.due("a blank faces the last page of the lots", 3, x.lot(0, 7));
        Checks.due("its spread", 5, x.page(4, 4));
        x.set(0, 4);
        Checks.due("it is the last of all gatherings", 1, x.lot(0, 7));
        Checks.due("no spread", NONE, x.page(4, 4));
        x.add(1, 0);
        Checks.due("the last of the first of two gatherings", 2, x.lot(0, 7));
        Checks.due("its spread goes over two gatherings", 5, x.page(4, 4));
        x = Checks.loaded("3,3,2b");
        Checks.due("the first page of the second gathering", 8, x.page(9, 4));
        x = Checks.loaded("3,3,1,1b");
        x.set(0, 4);
        Checks.due("a plate and its text in two gatherings", 1, x.lot(3, 6));
    }

    /** "the page 1 is alone" */
    private static void thePageOneIsAlone() {
        FacingPlates x = Checks.loaded("3c,1");
        Checks.due("a plate on page 1", 1, x.lot(0, 5));
        Checks.due("it does not face", 0, x.lot(0, 6));
        Checks.due("it is alone", 1, x.lot(0, 7));
        x.choose(0, true, 0);
        Checks.due("a plate on page 2", 2, x.lot(0, 5));
        Checks.due("it faces", 1, x.lot(0, 6));
        x.choose(0, false, 1);
        Checks.due("a plate on page 2 behind text", 1, x.lot(0, 6));
    }

    /** "A plate faces its text if the other page of its spread is a page of text of its own lot." */
    private static void itsOwnLot() {
        FacingPlates x = Checks.loaded("1,1b@1,1b@0,3");
        Checks.due("text of its own lot", 1, x.lot(1, 6));
        Checks.due("text of its own lot behind it", 1, x.lot(2, 6));
        x = Checks.loaded("2,1b@1,1");
        Checks.due("text of another lot", 2, x.lot(1, 7));
        Checks.due("text of another lot", 0, x.lot(1, 6));
        x = Checks.loaded("1,2b@2,1b@0");
        Checks.due("a plate of another lot", 2, x.lot(1, 7));
        Checks.due("a plate of another lot ahead", 2, x.lot(2, 7));
        x = Checks.loaded("1,2b@2,1b@0+");
        Checks.due("a blank that is put", 3, x.lot(1, 7));
    }

    /** "gatherings of as many pages as the setting 0 tells (4, 8 or 16; 8 at first)" */
    private static void sizesOfGatherings() {
        FacingPlates x = withPages(17);
        Checks.due("8 at first", 8, x.count(10));
        Checks.due("gatherings of 8", 3, x.count(5));
        x.set(0, 4);
        Checks.due("gatherings of 4", 5, x.count(5));
        x.set(0, 16);
        Checks.due("gatherings of 16", 2, x.count(5));
        for (int size = -1; size <= 33; size++) {
            boolean allowed = size == 4 || size == 8 || size == 16;
            int previous = x.count(10);
            Checks.due("size " + size, allowed ? previous : BAD_VALUE, x.set(0, size));
            Checks.due("size behind it", allowed ? size : previous, x.count(10));
        }
    }

    /** "behind the last lot as many blank pages follow as are wanting for the last gathering" */
    private static void blanksThatAreWanting() {
        for (int pages = 1; pages <= 60; pages++) {
            FacingPlates x = withPages(pages);
            for (int size : SIZES) {
                x.set(0, size);
                int all = (pages + size - 1) / size * size;
                Checks.due("pages of all gatherings of " + pages, all, x.count(6));
                Checks.due("gatherings of " + pages, all / size, x.count(5));
                Checks.due("the last page of a lot", 1, x.page(pages, 1) == 4 ? 0 : 1);
                Checks.due("the page behind it", pages == all ? UNKNOWN : 4, x.page(pages + 1, 1));
                Checks.due("the last page", pages == all ? x.page(pages, 1) : 4, x.page(all, 1));
                Checks.due("no page behind the last", UNKNOWN, x.page(all + 1, 1));
            }
        }
    }

    /** "(they do not count as blanks that are put)" */
    private static void wantingBlanksAreNotPut() {
        FacingPlates x = Checks.loaded("1");
        x.set(3, 99);
        Checks.due("blanks that are put", 0, x.count(8));
        Checks.due("cost without them", 20, x.count(9));
        Checks.due("pages without them", 1, x.count(4));
        Checks.due("but they are blanks", 7, x.gathering(0, 2));
        x.choose(0, true, 0);
        Checks.due("one that is put", 1, x.count(8));
        Checks.due("cost with it", 20 + 99, x.count(9));
        Checks.due("both kinds", 7, x.gathering(0, 2));
    }

    /** "Without lots there are no gatherings." */
    private static void withoutLots() {
        FacingPlates x = new FacingPlates();
        for (int size : SIZES) {
            x.set(0, size);
            nothingIsBound(x);
        }
        x.set(1, 99);
        x.set(4, 999);
        nothingIsBound(x);
        x.add(1, 0);
        Checks.due("one gathering", 1, x.count(5));
        x.remove(0);
        nothingIsBound(x);
    }

    private static void nothingIsBound(FacingPlates x) {
        Checks.due("no gatherings", 0, x.count(5));
        Checks.due("no pages", 0, x.count(6));
        Checks.due("no cost", 0, x.count(9));
        Checks.due("no gathering 0", UNKNOWN, x.gathering(0, 0));
        Checks.due("no page 1", UNKNOWN, x.page(1, 0));
    }

    /** "pages whose number leaves 0 or 1, divided by 4, are on the outer side, others on the inner side" */
    private static void sidesOfASheet() {
        int[] ofFour = {0, 1, 1, 0};
        FacingPlates x = withPages(33);
        for (int size : SIZES) {
            x.set(0, size);
            for (int page = 1; page <= x.count(6); page++) {
                Checks.due("side of " + page, ofFour[(page - 1) % size % 4], x.page(page, 3));
            }
        }
    }

    /** "A side with a plate in colour on it is printed in colour.": each side alone, two plates once. */
    private static void sidesInColour() {
        for (int size : SIZES) {
            for (int page = 2; page <= 17; page++) {
                FacingPlates x = new FacingPlates();
                x.set(0, size);
                for (int ahead = page - 1; ahead > 0; ahead -= 3) {
                    x.add(Math.min(3, ahead), 0);
                }
                x.add(1, 2);
                Checks.due("the page of the plate", 3, x.page(page, 1));
                int gathering = (page - 1) / size;
                int side = x.page(page, 3);
                Checks.due("sides in colour", 1, x.count(7));
                Checks.due("outer", 1 - side, x.gathering(gathering, 4));
                Checks.due("inner", side, x.gathering(gathering, 5));
                Checks.due("the gathering ahead", gathering == 0 ? UNKNOWN : 0, x.gathering(gathering - 1, 3));
            }
        }
        FacingPlates x = Checks.loaded("1,1c,1c@1,1c@1,1c,1c");
        Checks.due("two plates on each of two sides, one on a third", 3, x.count(7));
        Checks.due("two sides of the first", 2, x.gathering(0, 3));
        x.set(0, 16);
        Checks.due("all on two sides", 2, x.count(7));
    }

    /** "A side with a plate in colour on it": one in black is none. */
    private static void blackColoursNoSide() {
        FacingPlates x = Checks.loaded("1b,1b,1b,1b");
        Checks.due("no side", 0, x.count(7));
        Checks.due("cost of none", 20, x.count(9));
        x.change(1, 1, 2);
        Checks.due("one side", 1, x.count(7));
    }

    /** "the setting 1 (0 to 99 ...)", "the setting 2 (0 to 99 ...)", "the setting 3 (0 to 99 ...)", "the setting 4 (0 to 999 ...)" */
    private static void rangesOfSettings() {
        int[] most = {0, 99, 99, 99, 999};
        FacingPlates x = new FacingPlates();
        for (int which = 1; which <= 4; which++) {
            int first = x.count(10 + which);
            Checks.due("below 0", BAD_VALUE, x.set(which, -1));
            Checks.due("above all", BAD_VALUE, x.set(which, most[which] + 1));
            Checks.due("the least", first, x.set(which, 0));
            Checks.due("below 0", BAD_VALUE, x.set(which, -1));
            Checks.due("the greatest", 0, x.set(which, most[which]));
            Checks.due("above all", BAD_VALUE, x.set(which, most[which] + 1));
            Checks.due("just inside", most[which], x.set(which, most[which] - 1));
            Checks.due("just inside", most[which] - 1, x.set(which, 1));
            Checks.due("it is so", 1, x.count(10 + which));
        }
        for (int which = 0; which <= 4; which++) {
            int before = x.count(10 + which);
            for (int value : Checks.FAR) {
                Checks.due("far", BAD_VALUE, x.set(which, value));
            }
            Checks.due("the setting stays", before, x.count(10 + which));
        }
    }

    /** "8 at first", "10 at first", "20 at first", "1 at first", "100 at first" */
    private static void settingsAtFirst() {
        int[] first = {8, 10, 20, 1, 100};
        FacingPlates x = new FacingPlates();
        for (int which = 0; which <= 4; which++) {
            Checks.due("setting " + which, first[which], x.count(10 + which));
            Checks.due("it is so", NONE, x.set(which, first[which]));
        }
    }

    /** "for each gathering, once more, the tenth of the setting 4 ..., rounded down" */
    private static void tenthRoundedDown() {
        FacingPlates x = withPages(9);
        x.set(0, 4);
        x.set(1, 0);
        int[] copies = {0, 1, 9, 10, 11, 19, 20, 99, 990, 998, 999};
        int[] tenths = {0, 0, 0, 1, 1, 1, 2, 9, 99, 99, 99};
        for (int i = 0; i < copies.length; i++) {
            x.set(4, copies[i]);
            Checks.due("three gatherings at " + copies[i], 3 * tenths[i], x.count(9));
            Checks.due("two gatherings at " + copies[i], 2 * tenths[i], x.leastCost(8));
        }
    }

    private static FacingPlates dearest() {
        FacingPlates x = new FacingPlates();
        x.set(0, 4);
        x.set(1, 99);
        x.set(2, 99);
        x.set(3, 99);
        x.set(4, 999);
        for (int lot = 0; lot < 12; lot++) {
            x.add(3, 2);
            x.choose(lot, true, 0);
        }
        return x;
    }

    /** "The whole cost is: ...", with all settings and lots at their greatest. */
    private static void greatestCost() {
        FacingPlates x = dearest();
        Checks.due("sides in colour", 12, x.count(7));
        Checks.due("the greatest", 15 * (99 + 99) + 12 * 99 + 12 * 99, x.count(9));
        int leastOfFour = 13 * (99 + 99) + 6 * 99 + 99;
        Checks.due("the cheapest of 4: by a blank two plates share a side", leastOfFour, x.leastCost(4));
        Checks.due("the cheapest of 8", 6 * (99 + 99) + 6 * 99, x.leastCost(8));
        Checks.due("the cheapest of 16", 3 * (99 + 99) + 3 * 99, x.leastCost(16));
        Checks.due("plan", leastOfFour, x.plan());
        for (int lot = 0; lot < 12; lot++) {
            Checks.due("it faces", 1, x.lot(lot, 6));
            Checks.due("place of " + lot, 3 - lot % 2, x.lot(lot, 3));
        }
    }

    /** "(0 to 99 ...)": with all settings at 0 nothing costs, and the lesser choices are due. */
    private static void leastCostOfAll() {
        FacingPlates x = dearest();
        for (int which = 1; which <= 4; which++) {
            x.set(which, 0);
        }
        Checks.due("all is free", 0, x.count(9));
        Checks.due("the cheapest is free", 0, x.leastCost(4));
        Checks.due("plan", 0, x.plan());
        Checks.due("no blanks though they are free", 0, x.count(8));
        Checks.due("all face", 12, x.count(3));
    }

    /** "NOT_POSSIBLE ...: There are no such choices.": a blank or none always brings a plate at place 0 to an even page. */
    private static void alwaysPossible() {
        for (int one = 0; one < 9; one++) {
            for (int two = 0; two < 9; two++) {
                for (int size : SIZES) {
                    FacingPlates x = new FacingPlates();
                    x.set(0, size);
                    x.add(1 + one % 3, one / 3);
                    x.add(1 + two % 3, two / 3);
                    x.choose(1, true, 0);
                    int least = x.leastCost(size);
                    Checks.due("there are choices", 1, least > 0 ? 1 : 0);
                    Checks.due("it is not so", 0, x.plan() == FacingPlates.NOT_POSSIBLE ? 1 : 0);
                    Checks.due("the cost behind plan", least, x.count(9));
                    Checks.due("all face", x.count(1), x.count(3));
                }
            }
        }
    }

    /** "the lesser choice for the first lot in which they differ: without a blank ahead of with one, then the lower place" */
    private static void lesserChoices() {
        FacingPlates x = Checks.loaded("3b@3+,3b@3+");
        Checks.due("plan", 20, x.plan());
        Checks.state("the lower place of the first, then of the second", x, "3b@1,3b@1 8 10 20 1 100");
        x = Checks.loaded("2b@0+,3+");
        x.set(3, 0);
        Checks.due("a blank is free", 20, x.plan());
        Checks.state("without a blank goes ahead of a lower place", x, "2b@1,3 8 10 20 0 100");
        x = Checks.loaded("1,1b+,1b+,1b+");
        x.set(3, 0);
        x.plan();
        Checks.state("no blanks", x, "1,1b@0,1b@0,1b@0 8 10 20 0 100");
        x = Checks.loaded("2,1b@1,2,1b@1");
        x.set(3, 0);
        x.plan();
        Checks.state("the odd page wants the place 1", x, "2,1b@0+,2,1b@0 8 10 20 0 100");
    }

    /** "those with the least whole cost are the cheapest": two blanks and a gathering against a side in colour. */
    private static void blanksForASide() {
        int[] sides = {21, 22, 23};
        int[] costs = {2 * 20 + 3 * 21, 2 * 20 + 3 * 22, 3 * 20 + 2 * 23 + 2};
        String[] plans = {"1,1c@0,1c@0,1c@0", "1,1c@0,1c@0,1c@0", "1+,1c@1+,1c@0,1c@0"};
        for (int i = 0; i < sides.length; i++) {
            FacingPlates x = Checks.loaded("1,1c+,1c+,1c+");
            x.set(0, 4);
            x.set(2, sides[i]);
            Checks.due("least of a side of " + sides[i], costs[i], x.leastCost(4));
            Checks.due("plan of a side of " + sides[i], costs[i], x.plan());
            Checks.state("plan", x, plans[i] + " 4 10 " + sides[i] + " 1 100");
        }
    }

    /** The same of twelve lots: a blank and a gathering against six sides. */
    private static void blanksForASideOfTwelve() {
        int[] copies = {209, 200, 199};
        int[] costs = {12 * 119 + 12 * 20, 12 * 119 + 12 * 20, 13 * 118 + 6 * 20 + 1};
        for (int i = 0; i < copies.length; i++) {
            FacingPlates x = new FacingPlates();
            x.set(0, 4);
            x.set(1, 99);
            x.set(4, copies[i]);
            for (int lot = 0; lot < 12; lot++) {
                x.add(3, 2);
            }
            Checks.due("least at " + copies[i], costs[i], x.leastCost(4));
            Checks.due("plan at " + copies[i], costs[i], x.plan());
            Checks.due("a blank ahead of the first", copies[i] < 200 ? 1 : 0, x.lot(0, 2));
            Checks.due("no other blank", x.lot(0, 2), x.count(8));
        }
    }

    /** Five sides fewer for a blank that needs no gathering; the first lot goes without it. */
    private static void blankInTheLastGatheringOfTwelve() {
        FacingPlates x = Checks.loaded("3c,3c,3c,3c,3c,3c,3c,3c,3c,3c,3c,2");
        x.set(0, 4);
        x.set(1, 99);
        x.set(4, 209);
        Checks.due("no blank, eleven sides", 12 * 119 + 11 * 20, x.ifChosen(0, false, 1));
        Checks.due("plan", 12 * 119 + 6 * 20 + 1, x.plan());
        Checks.state("plan", x, "3c@1,3c@3+,3c@2,3c@3,3c@2,3c@3,3c@2,3c@3,3c@2,3c@3,3c@2,2 4 99 20 1 209");
    }
}
