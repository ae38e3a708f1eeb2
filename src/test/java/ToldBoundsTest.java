/** The sentences of promises 15 to 21 that name a bound, an empty or a full state, or a call that is refused. */
final class ToldBoundsTest {
    private static final int UNKNOWN = FacingPlates.UNKNOWN;
    private static final int BAD_VALUE = FacingPlates.BAD_VALUE;
    private static final int NONE = FacingPlates.NONE;
    private static final int[] SIZES = {4, 8, 16};

    public static void main(String[] args) {
        lotNumbers();
        lotWhats();
        lotWithoutPlate();
        lotFirstPage();
        lotPlatePage();
        whyAlone();
        whyAnotherLot();
        whyBlank();
        pageNumbers();
        pageWhats();
        pageOfABlank();
        pageKinds();
        pageGatherings();
        pageSpreads();
        gatheringNumbers();
        gatheringWhats();
        gatheringOfBlanksAlone();
        gatheringOfManyLots();
        lotOverGatherings();
        platesAtTheEndsOfGatherings();
        gatheringSides();
        ifChosenBounds();
        ifChosenAsItIs();
        ifChosenWhetherItFaces();
        ifChosenOfGatherings();
        cheapestBounds();
        cheapestWithoutPlate();
        leastCostBounds();
        leastCostOfNoLots();
        countBounds();
        countOfNothing();
        countOfAll();
        countOfStatesAndText();
        Checks.finish();
    }

    private static FacingPlates twelve() {
        return Checks.loaded(TextBoundsTest.FULL_TEXT);
    }

    /** "lot: a lot" */
    private static void lotNumbers() {
        FacingPlates x = new FacingPlates();
        Checks.due("no lot 0", UNKNOWN, x.lot(0, 0));
        x.add(2, 1);
        Checks.due("lot 0", 2, x.lot(0, 0));
        Checks.due("no lot 1", UNKNOWN, x.lot(1, 0));
        x = twelve();
        Checks.due("lot 11", 1, x.lot(11, 0));
        Checks.due("lot 12", UNKNOWN, x.lot(12, 0));
        Checks.due("lot -1", UNKNOWN, x.lot(-1, 0));
        for (int lot : Checks.FAR) {
            Checks.due("far", UNKNOWN, x.lot(lot, 0));
            Checks.due("unknown goes ahead", UNKNOWN, x.lot(lot, 8));
        }
    }

    /** "what: 0 ..., 7 ..." */
    private static void lotWhats() {
        FacingPlates x = Checks.loaded("1,3c@2+");
        int[] want = {3, 2, 1, 2, 3, 5, 1, 0};
        for (int what = 0; what <= 7; what++) {
            Checks.due("what " + what, want[what], x.lot(1, what));
        }
        Checks.due("8", BAD_VALUE, x.lot(1, 8));
        Checks.due("-1", BAD_VALUE, x.lot(1, -1));
        for (int what : Checks.FAR) {
            Checks.due("far", BAD_VALUE, x.lot(1, what));
            Checks.due("far without a plate", BAD_VALUE, x.lot(0, what));
        }
    }

    /** "(NONE without one)", "1 without a plate": the other numbers as with one. */
    private static void lotWithoutPlate() {
        FacingPlates x = Checks.loaded("2+,3");
        int[][] want = {{2, 0, 1, NONE, 2, NONE, 1, 0}, {3, 0, 0, NONE, 4, NONE, 1, 0}};
        for (int lot = 0; lot < 2; lot++) {
            for (int what = 0; what <= 7; what++) {
                Checks.due("lot " + lot + " " + what, want[lot][what], x.lot(lot, what));
            }
        }
        Checks.due("no plates face", 0, x.count(3));
        x.change(0, 1, 1);
        Checks.due("a place of 0 is a place", 0, x.lot(0, 3));
        Checks.due("a page of the plate", 2, x.lot(0, 5));
        x.choose(0, false, 0);
        Checks.due("its plate is alone", 1, x.lot(0, 7));
        x.change(0, 1, 0);
        Checks.due("without a plate none is alone", 0, x.lot(0, 7));
        Checks.due("without a plate again", 1, x.lot(0, 6));
    }

    /** "its first page (its blank not counted)" */
    private static void lotFirstPage() {
        FacingPlates x = Checks.loaded("1+");
        Checks.due("behind its blank", 2, x.lot(0, 4));
        x.choose(0, false, 0);
        Checks.due("the page 1", 1, x.lot(0, 4));
        x = Checks.loaded("3c@3+,3c@3+,3c@3+,3c@3+,3c@3+,3c@3+,3c@3+,3c@3+,3c@3+,3c@3+");
        x.add(3, 2);
        x.add(3, 2);
        x.choose(10, true, 0);
        Checks.due("the last of 60 pages, without its blank", 56, x.lot(11, 4));
        x.choose(11, true, 0);
        Checks.due("with its blank", 57, x.lot(11, 4));
        Checks.due("its plate is its first page", 57, x.lot(11, 5));
        x.choose(11, true, 3);
        Checks.due("the first page stays", 57, x.lot(11, 4));
        Checks.due("its plate is its last page", 60, x.lot(11, 5));
    }

    /** "the page of its plate (NONE without one)" */
    private static void lotPlatePage() {
        for (int text = 1; text <= 3; text++) {
            for (int place = 0; place <= text; place++) {
                FacingPlates x = Checks.loaded("2," + text + "b@" + place);
                Checks.due("page of the plate", 3 + place, x.lot(1, 5));
                Checks.due("it is there", 2, x.page(3 + place, 1));
                x.choose(1, true, place);
                Checks.due("behind a blank", 4 + place, x.lot(1, 5));
                x.change(1, text, 0);
                Checks.due("none", NONE, x.lot(1, 5));
            }
        }
    }

    private static void why(String text, int size, int lot, int why) {
        FacingPlates x = Checks.loaded(text);
        x.set(0, size);
        Checks.due("why of " + text, why, x.lot(lot, 7));
        Checks.due("faces of " + text, why == 0 ? 1 : 0, x.lot(lot, 6));
    }

    /** "1 its page is alone": the page 1, and the last one of all gatherings. */
    private static void whyAlone() {
        for (int size : SIZES) {
            why("1b", size, 0, 1);
            why("3c", size, 0, 1);
        }
        why("3b@3", 4, 0, 1);
        why("3b@2", 4, 0, 0);
        why("3,3,1b@1", 8, 2, 1);
        why("3,3,1b@1", 4, 2, 1);
        why("3,3,1b@1", 16, 2, 3);
        why("3,3,1b@1,1", 8, 2, 2);
        why("3,3,3,3,3b@3", 16, 4, 1);
        why("3,3,3,3,3b@2", 16, 4, 0);
    }

    /** "2 the other page of its spread is of another lot": its text or its plate, ahead or behind. */
    private static void whyAnotherLot() {
        why("1,1b@1,1", 8, 1, 0);
        why("2,1b@1,1", 8, 1, 2);
        why("2,1b@1,1b@0", 8, 1, 2);
        why("2,1b@0", 8, 1, 2);
        why("1b@1,1b@0", 8, 0, 2);
        why("1b@1,1b@0", 8, 1, 2);
    }

    /** "3 the other page of its spread is a blank": one that is put, or one behind the last lot. */
    private static void whyBlank() {
        why("1b@1,1+", 8, 0, 3);
        why("1b@1", 8, 0, 3);
        why("1,1b@0+", 8, 1, 3);
        why("1b@1,1b@0+", 8, 0, 3);
        why("3,3b@3", 16, 1, 0);
        why("3,2b@2", 16, 1, 3);
        why("3,2b@2", 4, 1, 3);
        why("2,1b@0+", 8, 1, 0);
    }

    /** "page: a page of a gathering, from 1" */
    private static void pageNumbers() {
        FacingPlates x = new FacingPlates();
        Checks.due("no page 1", UNKNOWN, x.page(1, 0));
        x.add(1, 0);
        for (int size : SIZES) {
            x.set(0, size);
            Checks.due("page 0", UNKNOWN, x.page(0, 0));
            Checks.due("page 1", 0, x.page(1, 0));
            Checks.due("the last page", NONE, x.page(size, 0));
            Checks.due("behind it", UNKNOWN, x.page(size + 1, 0));
            Checks.due("unknown goes ahead", UNKNOWN, x.page(size + 1, 5));
            Checks.due("page -1", UNKNOWN, x.page(-1, 0));
        }
        for (int page : Checks.FAR) {
            Checks.due("far", UNKNOWN, x.page(page, 0));
            Checks.due("unknown goes ahead", UNKNOWN, x.page(page, -1));
        }
        x = TermsBoundsTest.withPages(60);
        Checks.due("page 60", 11, x.page(60, 0));
        Checks.due("page 64", NONE, x.page(64, 0));
        Checks.due("page 65", UNKNOWN, x.page(65, 0));
        x.set(0, 4);
        Checks.due("page 60", 11, x.page(60, 0));
        Checks.due("page 61", UNKNOWN, x.page(61, 0));
    }

    /** "what: 0 ..., 4 ..." */
    private static void pageWhats() {
        FacingPlates x = Checks.loaded("3,2c@1");
        int[] want = {1, 3, 0, 0, 4};
        for (int what = 0; what <= 4; what++) {
            Checks.due("what " + what, want[what], x.page(5, what));
        }
        Checks.due("5", BAD_VALUE, x.page(5, 5));
        Checks.due("-1", BAD_VALUE, x.page(5, -1));
        for (int what : Checks.FAR) {
            Checks.due("far", BAD_VALUE, x.page(1, what));
            Checks.due("far of a blank", BAD_VALUE, x.page(8, what));
        }
    }

    /** "0 for its lot (NONE for a blank)" */
    private static void pageOfABlank() {
        FacingPlates x = Checks.loaded("1+,1+");
        int[] owners = {NONE, 0, NONE, 1, NONE, NONE, NONE, NONE};
        int[] kinds = {0, 1, 0, 1, 4, 4, 4, 4};
        for (int page = 1; page <= 8; page++) {
            Checks.due("lot of " + page, owners[page - 1], x.page(page, 0));
            Checks.due("kind of " + page, kinds[page - 1], x.page(page, 1));
        }
    }

    /** "1 for what it is: 0 a blank that is put, 1 text, 2 a plate in black, 3 one in colour, 4 a blank behind ..." */
    private static void pageKinds() {
        FacingPlates x = Checks.loaded("1b+,1c@1");
        int[] kinds = {0, 2, 1, 1, 3, 4, 4, 4};
        for (int page = 1; page <= 8; page++) {
            Checks.due("kind of " + page, kinds[page - 1], x.page(page, 1));
        }
        x.change(0, 1, 0);
        x.change(1, 1, 1);
        int[] changed = {0, 1, 1, 2, 4, 4, 4, 4};
        for (int page = 1; page <= 8; page++) {
            Checks.due("kind of " + page, changed[page - 1], x.page(page, 1));
        }
    }

    /** "2 for its gathering, from 0" */
    private static void pageGatherings() {
        FacingPlates x = TermsBoundsTest.withPages(60);
        for (int size : SIZES) {
            x.set(0, size);
            int all = x.count(6);
            for (int first = 1; first <= all; first += size) {
                Checks.due("its first page", first / size, x.page(first, 2));
                Checks.due("its last page", first / size, x.page(first + size - 1, 2));
            }
            Checks.due("the last gathering", x.count(5) - 1, x.page(all, 2));
        }
    }

    /** "4 for the other page of its spread (NONE if it is alone)", of blanks too. */
    private static void pageSpreads() {
        FacingPlates x = Checks.loaded("1+,1");
        Checks.due("a blank on page 1", NONE, x.page(1, 4));
        Checks.due("2", 3, x.page(2, 4));
        Checks.due("3", 2, x.page(3, 4));
        Checks.due("4", 5, x.page(4, 4));
        Checks.due("6", 7, x.page(6, 4));
        Checks.due("7", 6, x.page(7, 4));
        Checks.due("a blank on the last page", NONE, x.page(8, 4));
        x.set(0, 4);
        Checks.due("4 is the last one", NONE, x.page(4, 4));
        x.set(0, 16);
        Checks.due("8 is not the last one", 9, x.page(8, 4));
        Checks.due("16 is the last one", NONE, x.page(16, 4));
    }

    /** "gathering: a gathering, from 0" */
    private static void gatheringNumbers() {
        FacingPlates x = new FacingPlates();
        Checks.due("no gathering 0", UNKNOWN, x.gathering(0, 0));
        x.add(3, 1);
        x.set(0, 4);
        Checks.due("gathering 0", 1, x.gathering(0, 0));
        Checks.due("no gathering 1", UNKNOWN, x.gathering(1, 0));
        x.choose(0, true, 0);
        Checks.due("gathering 1", 1, x.gathering(1, 0));
        Checks.due("no gathering 2", UNKNOWN, x.gathering(2, 0));
        Checks.due("gathering -1", UNKNOWN, x.gathering(-1, 0));
        for (int gathering : Checks.FAR) {
            Checks.due("far", UNKNOWN, x.gathering(gathering, 0));
            Checks.due("unknown goes ahead", UNKNOWN, x.gathering(gathering, 6));
        }
        x = TermsBoundsTest.withPages(60);
        x.set(0, 4);
        Checks.due("gathering 14", 1, x.gathering(14, 0));
        Checks.due("gathering 15", UNKNOWN, x.gathering(15, 0));
    }

    /** "what: 0 ..., 5 ..." */
    private static void gatheringWhats() {
        FacingPlates x = Checks.loaded("1,2c,1b");
        int[] want = {3, 2, 2, 1, 0, 1};
        for (int what = 0; what <= 5; what++) {
            Checks.due("what " + what, want[what], x.gathering(0, what));
        }
        Checks.due("6", BAD_VALUE, x.gathering(0, 6));
        Checks.due("-1", BAD_VALUE, x.gathering(0, -1));
        for (int what : Checks.FAR) {
            Checks.due("far", BAD_VALUE, x.gathering(0, what));
        }
    }

    /** "a blank is no page of a lot": a lot whose blank alone is in a gathering has no page in it. */
    private static void gatheringOfBlanksAlone() {
        FacingPlates x = Checks.loaded("3,1+,1");
        x.set(0, 4);
        Checks.due("lots of 0", 1, x.gathering(0, 0));
        Checks.due("blanks of 0", 1, x.gathering(0, 2));
        Checks.due("lots of 1", 2, x.gathering(1, 0));
        Checks.due("blanks of 1", 2, x.gathering(1, 2));
        x = Checks.loaded("3,1,1+");
        x.set(0, 4);
        Checks.due("lots of 1", 1, x.gathering(1, 0));
        Checks.due("both kinds", 3, x.gathering(1, 2));
    }

    private static void gatheringOfManyLots() {
        FacingPlates x = Checks.loaded("1,1,1,1,1,1,1,1,1,1,1,1");
        int[][] lots = {{4, 4, 4}, {8, 4}, {12}};
        for (int i = 0; i < SIZES.length; i++) {
            x.set(0, SIZES[i]);
            for (int gathering = 0; gathering < lots[i].length; gathering++) {
                Checks.due("lots", lots[i][gathering], x.gathering(gathering, 0));
                Checks.due("no plates", 0, x.gathering(gathering, 1));
            }
            Checks.due("no more", UNKNOWN, x.gathering(lots[i].length, 0));
        }
        Checks.due("wanting blanks", 4, x.gathering(0, 2));
        x = Checks.loaded("1b,1c,1b,1c,1b,1c,1b,1c");
        x.set(0, 16);
        Checks.due("plates", 8, x.gathering(0, 1));
        Checks.due("no blanks", 0, x.gathering(0, 2));
    }

    /** "those that have a page in it": a lot over two gatherings is one of both. */
    private static void lotOverGatherings() {
        FacingPlates x = Checks.loaded("2,3b@3,2");
        x.set(0, 4);
        Checks.due("lots of 0", 2, x.gathering(0, 0));
        Checks.due("lots of 1", 2, x.gathering(1, 0));
        Checks.due("plates of 0", 0, x.gathering(0, 1));
        Checks.due("plates of 1", 1, x.gathering(1, 1));
    }

    /** "1 for its plates, 2 for its blanks of both kinds": on its first page and on its last one. */
    private static void platesAtTheEndsOfGatherings() {
        FacingPlates x = Checks.loaded("3b@3,3c@0,3b@0,1+,2");
        x.set(0, 4);
        int[][] want = {{1, 0}, {1, 0}, {1, 0}, {0, 1}};
        for (int gathering = 0; gathering < want.length; gathering++) {
            Checks.due("plates of " + gathering, want[gathering][0], x.gathering(gathering, 1));
            Checks.due("blanks of " + gathering, want[gathering][1], x.gathering(gathering, 2));
        }
        x = Checks.loaded("3,1+,3,1b@1+,1");
        x.set(0, 4);
        Checks.due("a blank on the last page", 1, x.gathering(0, 2));
        Checks.due("none on the first page", 0, x.gathering(1, 2));
        Checks.due("one on the first page", 1, x.gathering(2, 2));
        Checks.due("a plate on the third", 1, x.gathering(2, 1));
    }

    /** "3 for its sides in colour, 4 for whether the outer one is ..., 5 for whether the inner one is" */
    private static void gatheringSides() {
        String[] texts = {"3", "3c", "3c@1", "1c,1c", "1c+,1c@1", "1b,1b"};
        int[][] want = {{0, 0, 0}, {1, 1, 0}, {1, 0, 1}, {2, 1, 1}, {2, 1, 1}, {0, 0, 0}};
        for (int i = 0; i < texts.length; i++) {
            FacingPlates x = Checks.loaded(texts[i]);
            for (int what = 3; what <= 5; what++) {
                Checks.due("sides of " + texts[i], want[i][what - 3], x.gathering(0, what));
            }
        }
    }

    /** "Returns the whole cost; UNKNOWN; BAD_VALUE." */
    private static void ifChosenBounds() {
        FacingPlates x = Checks.loaded("2,3c@1");
        Checks.due("lot 2", UNKNOWN, x.ifChosen(2, false, 0));
        Checks.due("lot -1", UNKNOWN, x.ifChosen(-1, false, 0));
        Checks.due("place 4", BAD_VALUE, x.ifChosen(1, false, 4));
        Checks.due("place -1", BAD_VALUE, x.ifChosen(1, false, -1));
        Checks.due("place 3", 40, x.ifChosen(1, false, 3));
        Checks.due("place 0", 41, x.ifChosen(1, true, 0));
        Checks.due("place 1 without a plate", BAD_VALUE, x.ifChosen(0, false, 1));
        Checks.due("place 2 without a plate", BAD_VALUE, x.ifChosen(0, true, 2));
        Checks.due("place 0 without a plate", 41, x.ifChosen(0, true, 0));
        for (int far : Checks.FAR) {
            Checks.due("far", UNKNOWN, x.ifChosen(far, false, 0));
            Checks.due("unknown goes ahead", UNKNOWN, x.ifChosen(far, false, far));
            Checks.due("far place", BAD_VALUE, x.ifChosen(1, true, far));
        }
        Checks.state("nothing changes", x, "2,3c@1 8 10 20 1 100");
        Checks.due("no lots", UNKNOWN, new FacingPlates().ifChosen(0, false, 0));
    }

    /** There is no NONE in its @return line: the choice that is made already has its cost too. */
    private static void ifChosenAsItIs() {
        FacingPlates x = Checks.loaded("2,3c@1+");
        Checks.due("as it is", 41, x.ifChosen(1, true, 1));
        Checks.due("as it is", 41, x.ifChosen(0, false, 0));
        Checks.due("count", 41, x.count(9));
    }

    /** "whether its plate faces its text then or not" */
    private static void ifChosenWhetherItFaces() {
        FacingPlates x = Checks.loaded("1c+");
        Checks.due("alone", 40, x.ifChosen(0, false, 0));
        Checks.due("by a blank", 40, x.ifChosen(0, false, 1));
        Checks.due("facing", 41, x.ifChosen(0, true, 1));
        Checks.due("it faces still", 1, x.lot(0, 6));
    }

    /** The whole cost, with the gatherings and the sides of the lots behind. */
    private static void ifChosenOfGatherings() {
        FacingPlates x = Checks.loaded("3,3,1,1c");
        Checks.due("as it is", 2 * 20 + 20, x.count(9));
        Checks.due("a blank ahead of all", 2 * 20 + 20 + 1, x.ifChosen(0, true, 0));
        x = Checks.loaded("3,3,1,1");
        Checks.due("8 pages", 20, x.count(9));
        Checks.due("9 pages", 2 * 20 + 1, x.ifChosen(2, true, 0));
        x = Checks.loaded("3,3,1c@0,2c@2");
        Checks.due("plates on 7 and 11", 2 * 20 + 2 * 20, x.count(9));
        Checks.due("plates on 9 and 12", 2 * 20 + 20 + 1, x.ifChosen(2, true, 1));
        Checks.due("plates on 8 and 11", 2 * 20 + 2 * 20, x.ifChosen(2, false, 1));
        Checks.due("plates on 7 and 11 still", 80, x.count(9));
    }

    /** "Returns the number; UNKNOWN; BAD_VALUE; NOT_POSSIBLE if there are none." */
    private static void cheapestBounds() {
        FacingPlates x = Checks.loaded("1c@1,3b@3");
        Checks.due("lot 2", UNKNOWN, x.cheapest(2, 0));
        Checks.due("lot -1", UNKNOWN, x.cheapest(-1, 0));
        Checks.due("what 2", BAD_VALUE, x.cheapest(0, 2));
        Checks.due("what -1", BAD_VALUE, x.cheapest(0, -1));
        Checks.due("what 0", 1, x.cheapest(0, 0));
        Checks.due("what 1", 0, x.cheapest(0, 1));
        Checks.due("what 1 of the last", 0, x.cheapest(1, 1));
        for (int far : Checks.FAR) {
            Checks.due("far", UNKNOWN, x.cheapest(far, 0));
            Checks.due("unknown goes ahead", UNKNOWN, x.cheapest(far, far));
            Checks.due("far what", BAD_VALUE, x.cheapest(1, far));
        }
        Checks.state("nothing changes", x, "1c@1,3b@3 8 10 20 1 100");
        Checks.due("no lots", UNKNOWN, new FacingPlates().cheapest(0, 0));
        Checks.due("no lots, bad", UNKNOWN, new FacingPlates().cheapest(0, 2));
    }

    /** "1 for the place of its plate (NONE without one)" */
    private static void cheapestWithoutPlate() {
        FacingPlates x = Checks.loaded("2+,1b");
        Checks.due("no blank", 0, x.cheapest(0, 0));
        Checks.due("no plate", NONE, x.cheapest(0, 1));
        Checks.due("bad goes ahead", BAD_VALUE, x.cheapest(0, 2));
        Checks.due("a blank", 1, x.cheapest(1, 0));
        Checks.due("a place of 0", 0, x.cheapest(1, 1));
        Checks.due("the blank is still put", 1, x.lot(0, 2));
    }

    /** "size: 4, 8 or 16" */
    private static void leastCostBounds() {
        FacingPlates x = Checks.loaded("3b,3b,3b");
        int[] costs = {3 * 20, 2 * 20, 20};
        for (int i = 0; i < SIZES.length; i++) {
            Checks.due("least of " + SIZES[i], costs[i], x.leastCost(SIZES[i]));
            Checks.due("the size stays", 8, x.count(10));
        }
        for (int size = -17; size <= 65; size++) {
            if (size != 4 && size != 8 && size != 16) {
                Checks.due("least of " + size, BAD_VALUE, x.leastCost(size));
            }
        }
        for (int size : Checks.FAR) {
            Checks.due("far", BAD_VALUE, x.leastCost(size));
        }
        Checks.state("nothing changes", x, "3b@0,3b@0,3b@0 8 10 20 1 100");
    }

    private static void leastCostOfNoLots() {
        FacingPlates x = new FacingPlates();
        for (int size : SIZES) {
            Checks.due("no lots", 0, x.leastCost(size));
        }
        Checks.due("bad without lots", BAD_VALUE, x.leastCost(0));
        x.add(1, 0);
        x.set(1, 0);
        x.set(4, 0);
        for (int size : SIZES) {
            Checks.due("a lot that costs nothing", 0, x.leastCost(size));
        }
    }

    /** "what: 0 for lots, ... 16 for the length of the text" */
    private static void countBounds() {
        FacingPlates x = Checks.loaded("1c+,2b@2");
        x.type('!');
        int[] want = {2, 2, 1, 1, 6, 1, 8, 1, 1, 41, 8, 10, 20, 1, 100, 1, 1};
        for (int what = 0; what <= 16; what++) {
            Checks.due("count " + what, want[what], x.count(what));
        }
        Checks.due("17", BAD_VALUE, x.count(17));
        Checks.due("-1", BAD_VALUE, x.count(-1));
        for (int what : Checks.FAR) {
            Checks.due("far", BAD_VALUE, x.count(what));
        }
    }

    private static void countOfNothing() {
        FacingPlates x = new FacingPlates();
        int[] want = {0, 0, 0, 0, 0, 0, 0, 0, 0, 0, 8, 10, 20, 1, 100, 0, 0};
        for (int what = 0; what <= 16; what++) {
            Checks.due("count " + what, want[what], x.count(what));
        }
        Checks.due("17 of nothing", BAD_VALUE, x.count(17));
    }

    private static void countOfAll() {
        FacingPlates x = new FacingPlates();
        for (int lot = 0; lot < 12; lot++) {
            x.add(3, lot == 5 ? 1 : 2);
            x.choose(lot, true, 3);
        }
        x.set(0, 4);
        int[] want = {12, 12, 11, 6, 60, 15, 60, 11, 12, 15 * 20 + 11 * 20 + 12, 4, 10, 20, 1, 100, 4, 0};
        for (int what = 0; what <= 16; what++) {
            Checks.due("count " + what, want[what], x.count(what));
        }
    }

    /** "15 for the states in the history, 16 for the length of the text": 0 to 4, 0 to 60. */
    private static void countOfStatesAndText() {
        FacingPlates x = new FacingPlates();
        for (int i = 0; i <= 6; i++) {
            Checks.due("states", Math.min(i, 4), x.count(15));
            x.set(4, i);
        }
        for (int i = 0; i <= 62; i++) {
            Checks.due("length", Math.min(i, 60), x.count(16));
            x.type('1');
        }
        x.clearText();
        Checks.due("length", 0, x.count(16));
    }
}
