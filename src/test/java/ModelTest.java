import java.util.ArrayList;
import java.util.Arrays;
import java.util.List;
import java.util.Random;

/** Long runs of calls, from fixed seeds, beside a plain model that tries every choice. */
final class ModelTest {
    private static final int UNKNOWN = -1;
    private static final int BAD_VALUE = -2;
    private static final int FULL = -3;
    private static final int NOT_POSSIBLE = -4;
    private static final int NONE = -5;

    public static void main(String[] args) {
        for (int seed = 0; seed < 3000; seed++) {
            new ModelTest(seed).run(seed % 10 == 0 ? 400 : 60);
        }
        manyLots();
        Checks.finish();
    }

    /** Full catalogues: the model's search is long, so they are few. */
    private static void manyLots() {
        Random random = new Random(77);
        for (int i = 0; i < 12; i++) {
            ModelTest test = new ModelTest(i);
            for (int lot = 0; lot < 12; lot++) {
                test.add(1 + random.nextInt(i < 6 ? 1 : 3), random.nextInt(3));
            }
            int[] sizes = {4, 8, 16};
            test.set(0, sizes[i % 3]);
            test.set(1, random.nextInt(100));
            test.set(2, random.nextInt(100));
            test.set(3, random.nextInt(20));
            test.set(4, random.nextInt(1000));
            Checks.due("full plan", test.modelPlan(), test.x.plan());
            test.compareAll();
        }
    }

    private record Lot(int text, int plate, int blank, int place) {
        int most() {
            return plate == 0 ? 0 : text;
        }

        Lot chosen(int newBlank, int newPlace) {
            return new Lot(text, plate, newBlank, newPlace);
        }
    }

    private record State(List<Lot> lots, List<Integer> settings) {
    }

    /** lot -1 for a blank; what as page() tells it in 1. */
    private record Page(int lot, int what) {
    }

    private final FacingPlates x = new FacingPlates();
    private final Random random;
    private List<Lot> lots = new ArrayList<>();
    private List<Integer> settings = new ArrayList<>(Arrays.asList(8, 10, 20, 1, 100));
    private final List<State> history = new ArrayList<>();
    private State snapshot = null;
    private String text = "";
    private final int most;

    private ModelTest(int seed) {
        random = new Random(seed);
        most = 3 + seed % 5;
    }

    private void run(int calls) {
        for (int i = 0; i < calls / 4; i++) {
            step();
            if (i % 4 == 0) {
                compareSome();
            }
        }
        compareAll();
    }

    private void due(String what, int want, int got) {
        Checks.due(what + " of " + Checks.write(x), want, got);
    }

    private int any(int from, int to) {
        return from + random.nextInt(to - from + 1);
    }

    private void step() {
        switch (random.nextInt(16)) {
            case 0, 1 -> add(any(0, 4), any(-1, 3));
            case 2 -> load();
            case 3 -> remove(any(-1, lots.size()));
            case 4 -> change(any(-1, lots.size()), any(0, 4), any(-1, 3));
            case 5 -> move(any(-1, lots.size()), any(-1, lots.size()));
            case 6, 7, 8 -> choose(any(-1, lots.size()), any(0, 1), any(-1, 4));
            case 9 -> plan();
            case 10, 11 -> set(any(-1, 5), anyValue());
            case 12 -> undo();
            case 13 -> keep();
            case 14 -> restore();
            default -> clearAndType();
        }
    }

    private int anyValue() {
        int[] values = {4, 8, 16, 0, 1, 9, 10, 19, 99, 100, 999, 1000, -1, 50};
        return values[random.nextInt(values.length)];
    }

    private State state() {
        return new State(List.copyOf(lots), List.copyOf(settings));
    }

    private void become(State state) {
        lots = new ArrayList<>(state.lots());
        settings = new ArrayList<>(state.settings());
    }

    private void record() {
        history.add(state());
        if (history.size() > 4) {
            history.remove(0);
        }
    }

    private boolean has(int lot) {
        return lot >= 0 && lot < lots.size();
    }

    private static boolean isLot(int text, int plate) {
        return text >= 1 && text <= 3 && plate >= 0 && plate <= 2;
    }

    private void add(int text, int plate) {
        int want;
        if (!isLot(text, plate)) {
            want = BAD_VALUE;
        } else if (lots.size() == 12) {
            want = FULL;
        } else {
            record();
            lots.add(new Lot(text, plate, 0, 0));
            want = lots.size() - 1;
        }
        due("add " + text + " " + plate, want, x.add(text, plate));
    }

    private void clearAndType() {
        due("clearText", text.length(), x.clearText());
        StringBuilder typed = new StringBuilder();
        int length = any(1, most);
        for (int i = 0; i < length; i++) {
            typed.append(i == 0 ? "" : ",").append(any(1, 3));
            int plate = any(0, 2);
            typed.append(plate == 0 ? "" : plate == 1 ? "b" : "c");
            typed.append(plate != 0 && any(0, 1) == 0 ? "@" + any(0, 2) : "");
            typed.append(any(0, 2) == 0 ? "+" : "");
        }
        if (any(0, 3) == 0) {
            typed.setCharAt(random.nextInt(typed.length()), "0123bc@+, x".charAt(random.nextInt(11)));
        }
        text = typed.substring(0, Math.min(60, any(0, 3) == 0 ? any(0, typed.length()) : typed.length()));
        for (int i = 0; i < text.length(); i++) {
            due("type", i + 1, x.type(text.charAt(i)));
        }
    }

    private static final String LOT = "([123]|1[bc](@[01])?|2[bc](@[0-2])?|3[bc](@[0-3])?)[+]?";

    /** The longest part that some catalogue begins with tells the fault. */
    private int fault() {
        if (text.matches(LOT + "(," + LOT + ")*")) {
            return -1;
        }
        int good = 0;
        for (int i = 1; i <= text.length(); i++) {
            String part = text.substring(0, i);
            for (String rest : new String[] {"", "0", "1"}) {
                if ((part + rest).matches(LOT + "(," + LOT + ")*")) {
                    good = i;
                }
            }
        }
        return good;
    }

    private void load() {
        int want;
        int fault = fault();
        String[] parts = text.split(",");
        if (fault >= 0) {
            want = -100 - fault;
        } else if (parts.length > 12) {
            want = FULL;
        } else {
            record();
            lots.clear();
            for (String part : parts) {
                int plate = part.contains("b") ? 1 : part.contains("c") ? 2 : 0;
                int at = part.indexOf('@');
                lots.add(new Lot(part.charAt(0) - '0', plate, part.endsWith("+") ? 1 : 0,
                    at < 0 ? 0 : part.charAt(at + 1) - '0'));
            }
            want = lots.size();
        }
        due("load '" + text + "'", want, x.load());
    }

    private void remove(int lot) {
        int want = UNKNOWN;
        if (has(lot)) {
            record();
            lots.remove(lot);
            want = lots.size();
        }
        due("remove " + lot, want, x.remove(lot));
    }

    private void change(int lot, int text, int plate) {
        int want;
        if (!has(lot)) {
            want = UNKNOWN;
        } else if (!isLot(text, plate)) {
            want = BAD_VALUE;
        } else if (lots.get(lot).text() == text && lots.get(lot).plate() == plate) {
            want = NONE;
        } else {
            record();
            Lot old = lots.get(lot);
            int place = plate == 0 ? 0 : old.place() > text ? text : old.place();
            lots.set(lot, new Lot(text, plate, old.blank(), place));
            want = (int) pages(lots, settings.get(0)).stream().filter(p -> p.what() != 4).count();
        }
        due("change " + lot + " " + text + " " + plate, want, x.change(lot, text, plate));
    }

    private void move(int lot, int to) {
        int want;
        if (!has(lot) || !has(to)) {
            want = UNKNOWN;
        } else if (lot == to) {
            want = NONE;
        } else {
            record();
            lots.add(to, lots.remove(lot));
            want = cost(lots, settings.get(0));
        }
        due("move " + lot + " " + to, want, x.move(lot, to));
    }

    private void choose(int lot, int blank, int place) {
        int if_ = ifChosen(lot, blank, place);
        due("ifChosen", if_, x.ifChosen(lot, blank == 1, place));
        int want = if_;
        if (if_ >= 0) {
            Lot chosen = lots.get(lot).chosen(blank, place);
            if (chosen.equals(lots.get(lot))) {
                want = NONE;
            } else {
                record();
                lots.set(lot, chosen);
            }
        }
        due("choose " + lot + " " + blank + " " + place, want, x.choose(lot, blank == 1, place));
    }

    private int ifChosen(int lot, int blank, int place) {
        if (!has(lot)) {
            return UNKNOWN;
        }
        if (place < 0 || place > lots.get(lot).most()) {
            return BAD_VALUE;
        }
        List<Lot> tried = new ArrayList<>(lots);
        tried.set(lot, lots.get(lot).chosen(blank, place));
        return cost(tried, settings.get(0));
    }

    private void plan() {
        if (lots.size() <= most) {
            due("plan", modelPlan(), x.plan());
        }
    }

    private int modelPlan() {
        List<Lot> best = cheapest(settings.get(0));
        if (best == null) {
            return NOT_POSSIBLE;
        }
        if (best.equals(lots)) {
            return NONE;
        }
        record();
        lots = best;
        return cost(lots, settings.get(0));
    }

    private void set(int which, int value) {
        int want;
        if (which < 0 || which > 4) {
            want = UNKNOWN;
        } else if (which == 0 ? value != 4 && value != 8 && value != 16
                : value < 0 || value > (which == 4 ? 999 : 99)) {
            want = BAD_VALUE;
        } else if (settings.get(which) == value) {
            want = NONE;
        } else {
            record();
            want = settings.set(which, value);
        }
        due("set " + which + " " + value, want, x.set(which, value));
    }

    private void undo() {
        int want = NONE;
        if (!history.isEmpty()) {
            become(history.remove(history.size() - 1));
            want = history.size();
        }
        due("undo", want, x.undo());
    }

    private void keep() {
        snapshot = state();
        due("keep", lots.size(), x.keep());
    }

    private void restore() {
        int want = NONE;
        if (snapshot != null) {
            record();
            become(snapshot);
            want = lots.size();
        }
        due("restore", want, x.restore());
    }

    private static List<Page> pages(List<Lot> lots, int size) {
        List<Page> pages = new ArrayList<>();
        for (int i = 0; i < lots.size(); i++) {
            Lot lot = lots.get(i);
            if (lot.blank() == 1) {
                pages.add(new Page(-1, 0));
            }
            List<Page> own = new ArrayList<>();
            for (int j = 0; j < lot.text(); j++) {
                own.add(new Page(i, 1));
            }
            if (lot.plate() != 0) {
                own.add(lot.place(), new Page(i, 1 + lot.plate()));
            }
            pages.addAll(own);
        }
        while (pages.size() % size != 0) {
            pages.add(new Page(-1, 4));
        }
        return pages;
    }

    private static int side(int page, int size) {
        int left = ((page - 1) % size + 1) % 4;
        return left < 2 ? 0 : 1;
    }

    private static boolean coloured(List<Page> pages, int size, int gathering, int side) {
        for (int page = gathering * size + 1; page <= (gathering + 1) * size; page++) {
            if (pages.get(page - 1).what() == 3 && side(page, size) == side) {
                return true;
            }
        }
        return false;
    }

    private static int sides(List<Page> pages, int size) {
        int sides = 0;
        for (int gathering = 0; gathering < pages.size() / size; gathering++) {
            sides += coloured(pages, size, gathering, 0) ? 1 : 0;
            sides += coloured(pages, size, gathering, 1) ? 1 : 0;
        }
        return sides;
    }

    private int cost(List<Lot> of, int size) {
        List<Page> pages = pages(of, size);
        int blanks = 0;
        for (Lot lot : of) {
            blanks += lot.blank();
        }
        int each = settings.get(1) + settings.get(4) / 10;
        return pages.size() / size * each + sides(pages, size) * settings.get(2) + blanks * settings.get(3);
    }

    private static int other(int page, int all) {
        return page == 1 || page == all ? NONE : page % 2 == 0 ? page + 1 : page - 1;
    }

    private static int platePage(List<Page> pages, int lot) {
        for (int page = 1; page <= pages.size(); page++) {
            if (pages.get(page - 1).lot() == lot && pages.get(page - 1).what() >= 2) {
                return page;
            }
        }
        return NONE;
    }

    private static int why(List<Page> pages, int lot) {
        int page = platePage(pages, lot);
        if (page == NONE) {
            return 0;
        }
        int other = other(page, pages.size());
        if (other == NONE) {
            return 1;
        }
        int owner = pages.get(other - 1).lot();
        return owner == lot ? 0 : owner == -1 ? 3 : 2;
    }

    /** Tries all choices in their order; a lot's facing hangs on the lots ahead alone, so others are left out early. */
    private List<Lot> cheapest(int size) {
        best = null;
        bestCost = Integer.MAX_VALUE;
        search(new ArrayList<>(), size);
        return best;
    }

    private List<Lot> best;
    private int bestCost;

    private void search(List<Lot> chosen, int size) {
        int i = chosen.size();
        if (i == lots.size()) {
            int cost = cost(chosen, size);
            if (cost < bestCost) {
                bestCost = cost;
                best = new ArrayList<>(chosen);
            }
            return;
        }
        for (int blank = 0; blank <= 1; blank++) {
            for (int place = 0; place <= lots.get(i).most(); place++) {
                chosen.add(lots.get(i).chosen(blank, place));
                if (why(pages(chosen, size), i) == 0 && cost(chosen, size) < bestCost) {
                    search(chosen, size);
                }
                chosen.remove(i);
            }
        }
    }

    private void compareSome() {
        if (Checks.write(x).equals(write())) {
            return;
        }
        Checks.state("model", x, write());
    }

    private String write() {
        StringBuilder out = new StringBuilder();
        for (Lot lot : lots) {
            out.append(out.length() == 0 ? "" : ",").append(lot.text());
            out.append(lot.plate() == 0 ? "" : (lot.plate() == 1 ? "b@" : "c@") + lot.place());
            out.append(lot.blank() == 1 ? "+" : "");
        }
        for (int setting : settings) {
            out.append(' ').append(setting);
        }
        return out.toString();
    }

    private void compareAll() {
        Checks.state("model", x, write());
        int size = settings.get(0);
        List<Page> pages = pages(lots, size);
        for (int page = 0; page <= pages.size() + 1; page++) {
            comparePage(pages, page, size);
        }
        for (int gathering = -1; gathering <= pages.size() / size; gathering++) {
            compareGathering(pages, gathering, size);
        }
        for (int lot = -1; lot <= lots.size(); lot++) {
            compareLot(pages, lot);
        }
        compareCounts(pages, size);
        if (lots.size() <= most || pages.size() > 12 && lots.size() == 12) {
            compareCheapest();
        }
    }

    private void comparePage(List<Page> pages, int page, int size) {
        boolean is = page >= 1 && page <= pages.size();
        Page p = is ? pages.get(page - 1) : new Page(-1, 0);
        int[] want = {p.lot() == -1 ? NONE : p.lot(), p.what(), (page - 1) / size, side(page, size),
            other(page, pages.size())};
        for (int what = 0; what < 5; what++) {
            due("page " + page + " " + what, is ? want[what] : UNKNOWN, x.page(page, what));
        }
    }

    private void compareGathering(List<Page> pages, int gathering, int size) {
        boolean is = gathering >= 0 && gathering < pages.size() / size;
        int[] want = new int[6];
        if (is) {
            List<Page> own = pages.subList(gathering * size, (gathering + 1) * size);
            want[0] = (int) own.stream().map(Page::lot).filter(l -> l != -1).distinct().count();
            want[1] = (int) own.stream().filter(p -> p.what() == 2 || p.what() == 3).count();
            want[2] = (int) own.stream().filter(p -> p.lot() == -1).count();
            want[4] = coloured(pages, size, gathering, 0) ? 1 : 0;
            want[5] = coloured(pages, size, gathering, 1) ? 1 : 0;
            want[3] = want[4] + want[5];
        }
        for (int what = 0; what < 6; what++) {
            due("gathering " + gathering + " " + what, is ? want[what] : UNKNOWN, x.gathering(gathering, what));
        }
    }

    private void compareLot(List<Page> pages, int i) {
        boolean is = has(i);
        int[] want = new int[8];
        if (is) {
            Lot lot = lots.get(i);
            int first = 1;
            while (pages.get(first - 1).lot() != i) {
                first++;
            }
            int why = why(pages, i);
            want = new int[] {lot.text(), lot.plate(), lot.blank(), lot.plate() == 0 ? NONE : lot.place(), first,
                platePage(pages, i), why == 0 ? 1 : 0, why};
        }
        for (int what = 0; what < 8; what++) {
            due("lot " + i + " " + what, is ? want[what] : UNKNOWN, x.lot(i, what));
        }
    }

    private void compareCounts(List<Page> pages, int size) {
        int facing = 0;
        for (int lot = 0; lot < lots.size(); lot++) {
            facing += lots.get(lot).plate() != 0 && why(pages, lot) == 0 ? 1 : 0;
        }
        int[] want = {lots.size(), (int) lots.stream().filter(l -> l.plate() != 0).count(),
            (int) lots.stream().filter(l -> l.plate() == 2).count(), facing,
            (int) pages.stream().filter(p -> p.what() != 4).count(), pages.size() / size, pages.size(),
            sides(pages, size), (int) pages.stream().filter(p -> p.what() == 0).count(), cost(lots, size),
            settings.get(0), settings.get(1), settings.get(2), settings.get(3), settings.get(4), history.size(),
            text.length(), BAD_VALUE};
        for (int what = 0; what < want.length; what++) {
            due("count " + what, want[what], x.count(what));
        }
    }

    private void compareCheapest() {
        for (int size = 4; size <= 16; size *= 2) {
            List<Lot> choices = cheapest(size);
            due("leastCost " + size, choices == null ? NOT_POSSIBLE : cost(choices, size), x.leastCost(size));
            for (int i = 0; choices != null && size == settings.get(0) && i < lots.size(); i++) {
                Lot lot = choices.get(i);
                due("cheapest blank " + i, lot.blank(), x.cheapest(i, 0));
                due("cheapest place " + i, lot.plate() == 0 ? NONE : lot.place(), x.cheapest(i, 1));
            }
        }
    }
}
