/** Promises 15, 16, 17, 21: lot, page, gathering, count; and the costs. */
final class ToldTest {
    public static void main(String[] args) {
        lot();
        whyNot();
        whyNotOfOtherStates();
        lotErrors();
        page();
        sides();
        pageErrors();
        gathering();
        gatheringErrors();
        count();
        fullCatalogue();
        Checks.finish();
    }

    private static void row(String what, int[] want, int[] got) {
        for (int i = 0; i < want.length; i++) {
            Checks.due(what + " " + i, want[i], got[i]);
        }
    }

    private static void lotIs(FacingPlates x, int lot, int... want) {
        int[] got = new int[8];
        for (int what = 0; what < 8; what++) {
            got[what] = x.lot(lot, what);
        }
        row("lot " + lot, want, got);
    }

    private static void lot() {
        int none = FacingPlates.NONE;
        FacingPlates x = Checks.loaded("1,2b@1,3c@3+,2+,1c@1,1b");
        lotIs(x, 0, 1, 0, 0, none, 1, none, 1, 0);
        lotIs(x, 1, 2, 1, 0, 1, 2, 3, 1, 0);
        lotIs(x, 2, 3, 2, 1, 3, 6, 9, 1, 0);
        lotIs(x, 3, 2, 0, 1, none, 11, none, 1, 0);
        lotIs(x, 4, 1, 2, 0, 1, 13, 14, 0, 2);
        lotIs(x, 5, 1, 1, 0, 0, 15, 15, 0, 2);
    }

    private static void why(String text, int lot, int why) {
        FacingPlates x = Checks.loaded(text);
        Checks.due("why of " + text, why, x.lot(lot, 7));
        Checks.due("faces in " + text, why == 0 ? 1 : 0, x.lot(lot, 6));
        int plates = x.count(1);
        for (int i = 0; i < x.count(0); i++) {
            plates -= 1 - x.lot(i, 6);
        }
        Checks.due("facing in " + text, plates, x.count(3));
    }

    private static void whyNot() {
        why("1b", 0, 1);
        why("1b@1", 0, 3);
        why("1b@0+", 0, 0);
        why("1b@1+", 0, 0);
        why("2b@1", 0, 0);
        why("3b@3", 0, 3);
        why("3,3b@3,3", 1, 0);
        why("3,1,3b@3,1", 2, 2);
        why("3,1,3b@3,1", 0, 0);
        why("3,1,3b@3", 2, 1);
        why("1,1,1b", 2, 2);
        why("1,1b@1,1", 1, 0);
        why("1,2b@2,1", 1, 2);
        why("1,2b@2,1+", 1, 3);
        why("1,1b+", 1, 3);
        why("1,1b@1+,1+", 1, 3);
        why("3,3,3,3,3,1b@0", 5, 0);
    }

    private static void whyNotOfOtherStates() {
        FacingPlates x = Checks.loaded("1b");
        Checks.due("alone", 1, x.lot(0, 7));
        x.change(0, 1, 0);
        Checks.due("without a plate", 0, x.lot(0, 7));
        Checks.due("without a plate", 1, x.lot(0, 6));
        x.undo();
        Checks.due("alone again", 1, x.lot(0, 7));
    }

    private static void lotErrors() {
        FacingPlates x = Checks.loaded("1,2b");
        int[] unknown = {-1, 2, 12, 100, Integer.MAX_VALUE, Integer.MIN_VALUE};
        for (int lot : unknown) {
            Checks.due("lot unknown", FacingPlates.UNKNOWN, x.lot(lot, 0));
            Checks.due("lot unknown ahead of bad", FacingPlates.UNKNOWN, x.lot(lot, 8));
        }
        int[] bad = {-1, 8, 9, Integer.MAX_VALUE, Integer.MIN_VALUE};
        for (int what : bad) {
            Checks.due("lot bad", FacingPlates.BAD_VALUE, x.lot(0, what));
        }
    }

    private static void pageIs(FacingPlates x, int page, int... want) {
        int[] got = new int[5];
        for (int what = 0; what < 5; what++) {
            got[what] = x.page(page, what);
        }
        row("page " + page, want, got);
    }

    private static void page() {
        int none = FacingPlates.NONE;
        FacingPlates x = Checks.loaded("1+,2b@1,3c@3+");
        pageIs(x, 1, none, 0, 0, 0, none);
        pageIs(x, 2, 0, 1, 0, 1, 3);
        pageIs(x, 3, 1, 1, 0, 1, 2);
        pageIs(x, 4, 1, 2, 0, 0, 5);
        pageIs(x, 5, 1, 1, 0, 0, 4);
        pageIs(x, 6, none, 0, 0, 1, 7);
        pageIs(x, 7, 2, 1, 0, 1, 6);
        pageIs(x, 8, 2, 1, 0, 0, 9);
        pageIs(x, 9, 2, 1, 1, 0, 8);
        pageIs(x, 10, 2, 3, 1, 1, 11);
        pageIs(x, 11, none, 4, 1, 1, 10);
        pageIs(x, 15, none, 4, 1, 1, 14);
        pageIs(x, 16, none, 4, 1, 0, none);
        Checks.due("page 17", FacingPlates.UNKNOWN, x.page(17, 0));
        x.set(0, 4);
        pageIs(x, 8, 2, 1, 1, 0, 9);
        pageIs(x, 9, 2, 1, 2, 0, 8);
        pageIs(x, 12, none, 4, 2, 0, none);
        Checks.due("page 13", FacingPlates.UNKNOWN, x.page(13, 0));
        x.set(0, 16);
        pageIs(x, 9, 2, 1, 0, 0, 8);
        pageIs(x, 16, none, 4, 0, 0, none);
    }

    private static void sides() {
        int[] sizes = {4, 8, 16};
        for (int size : sizes) {
            FacingPlates x = Checks.loaded("3,3,3,3,3,3,3,3,3,3,3,3");
            x.set(0, size);
            for (int page = 1; page <= x.count(6); page++) {
                int left = ((page - 1) % size + 1) % 4;
                Checks.due("side of " + page, left == 0 || left == 1 ? 0 : 1, x.page(page, 3));
                Checks.due("gathering of " + page, (page - 1) / size, x.page(page, 2));
            }
        }
    }

    private static void pageErrors() {
        FacingPlates x = Checks.loaded("1,2b");
        int[] unknown = {0, -1, 9, 65, Integer.MAX_VALUE, Integer.MIN_VALUE};
        for (int page : unknown) {
            Checks.due("page unknown", FacingPlates.UNKNOWN, x.page(page, 4));
            Checks.due("page unknown ahead of bad", FacingPlates.UNKNOWN, x.page(page, 5));
        }
        int[] bad = {-1, 5, Integer.MAX_VALUE, Integer.MIN_VALUE};
        for (int what : bad) {
            Checks.due("page bad", FacingPlates.BAD_VALUE, x.page(8, what));
        }
    }

    private static void gatheringIs(FacingPlates x, int gathering, int... want) {
        int[] got = new int[6];
        for (int what = 0; what < 6; what++) {
            got[what] = x.gathering(gathering, what);
        }
        row("gathering " + gathering, want, got);
    }

    private static void gathering() {
        FacingPlates x = Checks.loaded("1c+,2b@1,3c@3+,1c@1+");
        gatheringIs(x, 0, 3, 2, 2, 1, 0, 1);
        gatheringIs(x, 1, 2, 2, 3, 1, 0, 1);
        x.set(0, 4);
        gatheringIs(x, 0, 2, 1, 1, 1, 0, 1);
        gatheringIs(x, 1, 2, 1, 1, 0, 0, 0);
        gatheringIs(x, 2, 1, 1, 1, 1, 0, 1);
        gatheringIs(x, 3, 1, 1, 2, 1, 0, 1);
        x.set(0, 16);
        gatheringIs(x, 0, 4, 4, 5, 1, 0, 1);
        x = Checks.loaded("1,1,1,1,1+");
        x.set(0, 4);
        gatheringIs(x, 0, 4, 0, 0, 0, 0, 0);
        gatheringIs(x, 1, 1, 0, 3, 0, 0, 0);
        x = Checks.loaded("3,3,1c@1,1");
        gatheringIs(x, 0, 3, 1, 0, 1, 1, 0);
        gatheringIs(x, 1, 1, 0, 7, 0, 0, 0);
        x = Checks.loaded("3,3,1,1,1c");
        gatheringIs(x, 0, 4, 0, 0, 0, 0, 0);
        gatheringIs(x, 1, 1, 1, 6, 1, 1, 0);
        x = Checks.loaded("3,1+,1");
        x.set(0, 4);
        gatheringIs(x, 0, 1, 0, 1, 0, 0, 0);
        gatheringIs(x, 1, 2, 0, 2, 0, 0, 0);
    }

    private static void gatheringErrors() {
        FacingPlates x = Checks.loaded("3,3,3");
        int[] unknown = {-1, 2, 16, Integer.MAX_VALUE, Integer.MIN_VALUE};
        for (int gathering : unknown) {
            Checks.due("gathering unknown", FacingPlates.UNKNOWN, x.gathering(gathering, 0));
            Checks.due("gathering unknown ahead of bad", FacingPlates.UNKNOWN, x.gathering(gathering, 6));
        }
        int[] bad = {-1, 6, Integer.MAX_VALUE, Integer.MIN_VALUE};
        for (int what : bad) {
            Checks.due("gathering bad", FacingPlates.BAD_VALUE, x.gathering(1, what));
        }
    }

    private static void countIs(FacingPlates x, int... want) {
        int[] got = new int[17];
        for (int what = 0; what < 17; what++) {
            got[what] = x.count(what);
        }
        row("count", want, got);
    }

    private static void count() {
        FacingPlates x = Checks.loaded("1c+,2b@1,3c@3+,1c@1+,3");
        Checks.type(x, "12");
        countIs(x, 5, 4, 3, 3, 17, 3, 24, 2, 3, 3 * 20 + 2 * 20 + 3, 8, 10, 20, 1, 100, 1, 2);
        x.set(0, 4);
        x.set(1, 11);
        x.set(2, 22);
        x.set(3, 33);
        x.set(4, 449);
        countIs(x, 5, 4, 3, 3, 17, 5, 20, 3, 3, 5 * 55 + 3 * 22 + 3 * 33, 4, 11, 22, 33, 449, 4, 2);
        int[] bad = {-1, 17, 18, Integer.MAX_VALUE, Integer.MIN_VALUE};
        for (int what : bad) {
            Checks.due("count bad", FacingPlates.BAD_VALUE, x.count(what));
        }
    }

    private static void fullCatalogue() {
        FacingPlates x = new FacingPlates();
        for (int lot = 0; lot < 12; lot++) {
            x.add(3, 2);
            x.choose(lot, true, lot % 4);
        }
        Checks.due("all pages", 60, x.count(4));
        Checks.due("pages of all gatherings", 64, x.count(6));
        Checks.due("the last page", 4, x.page(64, 1));
        Checks.due("the last page is alone", FacingPlates.NONE, x.page(64, 4));
        Checks.due("the last page of a lot", 11, x.page(60, 0));
        x.set(0, 4);
        Checks.due("gatherings", 15, x.count(5));
        Checks.due("the last page of a lot is alone", FacingPlates.NONE, x.page(60, 4));
        Checks.due("a plate that is alone", 1, x.lot(11, 7));
    }
}
