import java.util.Random;

/** "accounts that add up": what is told of lots, pages, gatherings and the whole agrees, call beside call. */
final class AccountsTest {
    private static final int UNKNOWN = FacingPlates.UNKNOWN;
    private static final int NONE = FacingPlates.NONE;
    private static final int[] SIZES = {4, 8, 16};
    private static final String[] TEXTS = {"", "1", "3c@3+", "1c,1c@1,1b+,2", "3,3,1c@1,1", "1+,2b@1,3c@3+,1c@1+,3",
        "1,1,1,1,1,1,1,1,1,1,1,1", TextBoundsTest.FULL_TEXT};

    public static void main(String[] args) {
        Random random = new Random(11);
        for (int i = 0; i < 300; i++) {
            String text = i < TEXTS.length ? TEXTS[i] : anyText(random);
            int size = SIZES[i % 3];
            pages(made(text, size));
            pagesOfLots(made(text, size));
            gatherings(made(text, size));
            spreads(made(text, size));
            facing(made(text, size));
            cost(made(text, size));
            actsTellWhatIsThen(made(text, size));
            ifChosenTellsWhatChooseDoes(made(text, size));
            cheapestIsWhatPlanMakes(made(text, size));
            leastCostIsThatOfTheSize(text, size);
        }
        eachPartOfTheCost();
        Checks.finish();
    }

    private static String anyText(Random random) {
        StringBuilder text = new StringBuilder();
        int lots = 1 + random.nextInt(10);
        for (int lot = 0; lot < lots; lot++) {
            int pages = 1 + random.nextInt(3);
            int plate = random.nextInt(3);
            text.append(lot == 0 ? "" : ",").append(pages);
            text.append(plate == 0 ? "" : (plate == 1 ? "b@" : "c@") + random.nextInt(pages + 1));
            text.append(random.nextInt(3) == 0 ? "+" : "");
        }
        return text.toString();
    }

    /** A size that is set last, so that an undo shows what was ahead of an act. */
    private static FacingPlates made(String text, int size) {
        FacingPlates x = text.isEmpty() ? new FacingPlates() : Checks.loaded(text);
        x.set(1, 13);
        x.set(2, 37);
        x.set(3, 5);
        x.set(4, 128);
        x.set(0, size);
        return x;
    }

    private static void pages(FacingPlates x) {
        int[] kinds = new int[5];
        int all = x.count(6);
        for (int page = 1; page <= all; page++) {
            kinds[x.page(page, 1)]++;
        }
        int texts = 0;
        for (int lot = 0; lot < x.count(0); lot++) {
            texts += x.lot(lot, 0);
        }
        Checks.due("blanks that are put", x.count(8), kinds[0]);
        Checks.due("pages of text", texts, kinds[1]);
        Checks.due("plates in black", x.count(1) - x.count(2), kinds[2]);
        Checks.due("plates in colour", x.count(2), kinds[3]);
        Checks.due("blanks behind the last lot", all - x.count(4), kinds[4]);
        Checks.due("pages of all lots and their blanks", texts + x.count(1) + x.count(8), x.count(4));
        Checks.due("pages of all gatherings", x.count(5) * x.count(10), all);
    }

    private static void pagesOfLots(FacingPlates x) {
        int next = 1;
        for (int lot = 0; lot < x.count(0); lot++) {
            int own = x.lot(lot, 0) + (x.lot(lot, 1) == 0 ? 0 : 1);
            next += x.lot(lot, 2);
            Checks.due("first page of " + lot, next, x.lot(lot, 4));
            Checks.due("lot of its first page", lot, x.page(next, 0));
            Checks.due("lot of its last page", lot, x.page(next + own - 1, 0));
            boolean plated = x.lot(lot, 1) != 0;
            Checks.due("page of its plate", plated ? next + x.lot(lot, 3) : NONE, x.lot(lot, 5));
            next += own;
        }
        Checks.due("pages of all lots", next - 1, x.count(4));
    }

    private static void gatherings(FacingPlates x) {
        int[] sums = new int[6];
        int all = x.count(5);
        for (int gathering = 0; gathering < all; gathering++) {
            for (int what = 0; what < 6; what++) {
                sums[what] += x.gathering(gathering, what);
            }
        }
        Checks.due("plates of all gatherings", x.count(1), sums[1]);
        Checks.due("blanks of all gatherings", x.count(8) + x.count(6) - x.count(4), sums[2]);
        Checks.due("sides in colour of all gatherings", x.count(7), sums[3]);
        Checks.due("outer and inner sides", x.count(7), sums[4] + sums[5]);
        Checks.due("at least every lot once", 1, sums[0] >= x.count(0) ? 1 : 0);
        Checks.due("the gathering behind the last", UNKNOWN, x.gathering(all, 0));
    }

    private static void spreads(FacingPlates x) {
        int all = x.count(6);
        int alone = 0;
        for (int page = 1; page <= all; page++) {
            int other = x.page(page, 4);
            alone += other == NONE ? 1 : 0;
            Checks.due("the other page of the other one", other == NONE ? UNKNOWN : page, x.page(other, 4));
        }
        Checks.due("pages that are alone", all == 0 ? 0 : 2, alone);
    }

    private static void facing(FacingPlates x) {
        int facing = 0;
        for (int lot = 0; lot < x.count(0); lot++) {
            boolean faces = x.lot(lot, 6) == 1;
            Checks.due("why it does not", faces ? 1 : 0, x.lot(lot, 7) == 0 ? 1 : 0);
            facing += faces && x.lot(lot, 1) != 0 ? 1 : 0;
        }
        Checks.due("plates that face their texts", x.count(3), facing);
    }

    private static void cost(FacingPlates x) {
        int cost = x.count(5) * (x.count(11) + x.count(14) / 10) + x.count(7) * x.count(12) + x.count(8) * x.count(13);
        Checks.due("the whole cost", cost, x.count(9));
    }

    private static void actsTellWhatIsThen(FacingPlates x) {
        int lots = x.count(0);
        for (int lot = 0; lot < lots; lot++) {
            int told = x.move(lot, lots - 1 - lot);
            Checks.due("cost behind move", told == NONE ? NONE : x.count(9), told);
            told = x.change(lot, 1 + lot % 3, lot % 2);
            Checks.due("pages behind change", told == NONE ? NONE : x.count(4), told);
            told = x.choose(lot, lot % 3 == 0, 0);
            Checks.due("cost behind choose", told == NONE ? NONE : x.count(9), told);
        }
        int told = x.plan();
        Checks.due("cost behind plan", told == NONE ? NONE : x.count(9), told);
        Checks.due("lots behind keep", lots, x.keep());
        Checks.due("lots behind add", lots < 12 ? lots : FacingPlates.FULL, x.add(1, 1));
        int all = x.count(0);
        Checks.due("lots behind remove", all - 1, x.remove(all / 2));
        Checks.due("lots behind restore", lots, x.restore());
    }

    private static void ifChosenTellsWhatChooseDoes(FacingPlates x) {
        int before = x.count(9);
        for (int lot = 0; lot < x.count(0); lot++) {
            int most = x.lot(lot, 1) == 0 ? 0 : x.lot(lot, 0);
            for (int choice = 0; choice < 2 * (most + 1); choice++) {
                boolean blank = choice > most;
                int place = choice % (most + 1);
                int told = x.ifChosen(lot, blank, place);
                int chosen = x.choose(lot, blank, place);
                Checks.due("ifChosen", chosen == NONE ? before : chosen, told);
                if (chosen != NONE) {
                    x.undo();
                }
            }
        }
        Checks.due("the cost is as it was", before, x.count(9));
    }

    private static void cheapestIsWhatPlanMakes(FacingPlates x) {
        int lots = x.count(0);
        int[] blanks = new int[lots];
        int[] places = new int[lots];
        for (int lot = 0; lot < lots; lot++) {
            blanks[lot] = x.cheapest(lot, 0);
            places[lot] = x.cheapest(lot, 1);
        }
        int least = x.leastCost(x.count(10));
        x.plan();
        for (int lot = 0; lot < lots; lot++) {
            Checks.due("blanks behind plan", blanks[lot], x.lot(lot, 2));
            Checks.due("place behind plan", places[lot], x.lot(lot, 3));
            Checks.due("it faces behind plan", 1, x.lot(lot, 6));
        }
        Checks.due("cost behind plan", least, x.count(9));
        Checks.due("all face behind plan", x.count(1), x.count(3));
        Checks.due("plan is so already", NONE, x.plan());
    }

    /** "with another size of gatherings": as if that one were set. */
    private static void leastCostIsThatOfTheSize(String text, int size) {
        for (int other : SIZES) {
            int told = made(text, size).leastCost(other);
            FacingPlates x = made(text, other);
            x.plan();
            Checks.due("leastCost of " + other, x.count(9), told);
        }
    }

    /** "The whole cost is: ...": each of its parts with the settings of all others at 0. */
    private static void eachPartOfTheCost() {
        int[] times = {0, 5, 3, 2, 5};
        int[] values = {0, 99, 99, 99, 999};
        for (int which = 1; which <= 4; which++) {
            FacingPlates x = Checks.loaded("3c@3+,2b@1,3c@0,3b@3+,2c@2");
            x.set(0, 4);
            for (int other = 1; other <= 4; other++) {
                x.set(other, 0);
            }
            Checks.due("no cost", 0, x.count(9));
            x.set(which, values[which]);
            Checks.due("cost of the setting " + which, times[which] * 99, x.count(9));
        }
    }
}
