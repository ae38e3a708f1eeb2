/** Lots of an auction catalogue whose plates must face their texts; see README.md. */
public final class FacingPlates {
    public static final int UNKNOWN = -1;
    public static final int BAD_VALUE = -2;
    public static final int FULL = -3;
    public static final int NOT_POSSIBLE = -4;
    public static final int NONE = -5;

    private static final int FAULT_BASE = -100;
    private static final int MOST_LOTS = 12;
    private static final int MOST_TEXT = 3;
    private static final int MOST_CHARACTERS = 60;
    private static final int MOST_STATES = 4;
    private static final int MOST_PAGES = 64;

    private static final int BLACK = 1;
    private static final int COLOUR = 2;

    private static final int SETTINGS = 5;
    private static final int SIZE = 0;
    private static final int GATHERING_COST = 1;
    private static final int SIDE_COST = 2;
    private static final int BLANK_COST = 3;
    private static final int COPIES = 4;

    private static final int PUT_BLANK = 0;
    private static final int TEXT_PAGE = 1;
    private static final int COLOUR_PAGE = 3;
    private static final int END_BLANK = 4;

    private static final int OUTER = 0;
    private static final int INNER = 1;

    private final Catalogue now = new Catalogue();
    private final Catalogue tried = new Catalogue();
    private final Catalogue snapshot = new Catalogue();
    private boolean hasSnapshot = false;
    private final History history = new History();
    private final Typed typed = new Typed();
    private final Reader reader = new Reader();
    private final Layout layout = new Layout();
    private final Planner planner = new Planner();

    public FacingPlates() {
    }

    // ---- lots

    public int add(int text, int plate) {
        if (!isText(text) || !isPlate(plate)) {
            return BAD_VALUE;
        }
        if (now.lots() >= MOST_LOTS) {
            return FULL;
        }
        history.record(now);
        now.append(text, plate, 0, 0);
        return now.lots() - 1;
    }

    public int load() {
        int fault = reader.faultOf(typed);
        if (fault != Reader.NO_FAULT) {
            return FAULT_BASE - fault;
        }
        if (reader.lotsRead() > MOST_LOTS) {
            return FULL;
        }
        history.record(now);
        now.takeLots(reader.catalogue());
        return now.lots();
    }

    public int remove(int lot) {
        if (!now.has(lot)) {
            return UNKNOWN;
        }
        history.record(now);
        now.drop(lot);
        return now.lots();
    }

    public int change(int lot, int text, int plate) {
        if (!now.has(lot)) {
            return UNKNOWN;
        }
        if (!isText(text) || !isPlate(plate)) {
            return BAD_VALUE;
        }
        if (now.text(lot) == text && now.plate(lot) == plate) {
            return NONE;
        }
        history.record(now);
        int place = plate == 0 ? 0 : Math.min(now.place(lot), text);
        now.putLot(lot, text, plate, now.blank(lot), place);
        return now.pages();
    }

    public int move(int lot, int to) {
        if (!now.has(lot) || !now.has(to)) {
            return UNKNOWN;
        }
        if (lot == to) {
            return NONE;
        }
        history.record(now);
        now.shift(lot, to);
        return costOf(now);
    }

    // ---- choices, settings

    public int choose(int lot, boolean blank, int place) {
        if (!now.has(lot)) {
            return UNKNOWN;
        }
        if (!now.allows(lot, place)) {
            return BAD_VALUE;
        }
        int blanks = blank ? 1 : 0;
        if (now.blank(lot) == blanks && now.place(lot) == place) {
            return NONE;
        }
        history.record(now);
        now.putChoice(lot, blanks, place);
        return costOf(now);
    }

    public int plan() {
        if (!planner.solve(now, now.setting(SIZE))) {
            return NOT_POSSIBLE;
        }
        if (now.sameLots(planner.chosen())) {
            return NONE;
        }
        history.record(now);
        now.takeLots(planner.chosen());
        return costOf(now);
    }

    public int set(int which, int value) {
        if (which < 0 || which >= SETTINGS) {
            return UNKNOWN;
        }
        if (!isSetting(which, value)) {
            return BAD_VALUE;
        }
        int previous = now.setting(which);
        if (previous == value) {
            return NONE;
        }
        history.record(now);
        now.putSetting(which, value);
        return previous;
    }

    // ---- texts

    public int type(char character) {
        if (typed.length() >= MOST_CHARACTERS) {
            return FULL;
        }
        typed.append(character);
        return typed.length();
    }

    public int clearText() {
        int length = typed.length();
        typed.empty();
        return length;
    }

    // ---- history

    public int undo() {
        if (history.states() == 0) {
            return NONE;
        }
        history.takeLatest(now);
        return history.states();
    }

    public int keep() {
        snapshot.copy(now);
        hasSnapshot = true;
        return now.lots();
    }

    public int restore() {
        if (!hasSnapshot) {
            return NONE;
        }
        history.record(now);
        now.copy(snapshot);
        return now.lots();
    }

    // ---- what is told

    public int lot(int lot, int what) {
        if (!now.has(lot)) {
            return UNKNOWN;
        }
        layout.lay(now);
        boolean plated = now.plate(lot) != 0;
        switch (what) {
            case 0: return now.text(lot);
            case 1: return now.plate(lot);
            case 2: return now.blank(lot);
            case 3: return plated ? now.place(lot) : NONE;
            case 4: return layout.firstPage(lot);
            case 5: return plated ? layout.platePage(lot) : NONE;
            case 6: return layout.whyNotFacing(lot) == Layout.FACING ? 1 : 0;
            case 7: return layout.whyNotFacing(lot);
            default: return BAD_VALUE;
        }
    }

    public int page(int page, int what) {
        layout.lay(now);
        if (!layout.hasPage(page)) {
            return UNKNOWN;
        }
        switch (what) {
            case 0: return layout.owner(page);
            case 1: return layout.kind(page);
            case 2: return layout.gatheringOf(page);
            case 3: return sideOfPage(page);
            case 4: return layout.otherPage(page);
            default: return BAD_VALUE;
        }
    }

    public int gathering(int gathering, int what) {
        layout.lay(now);
        if (gathering < 0 || gathering >= layout.gatherings()) {
            return UNKNOWN;
        }
        switch (what) {
            case 0: return layout.lotsIn(gathering);
            case 1: return layout.platesIn(gathering);
            case 2: return layout.blanksIn(gathering);
            case 3: return layout.coloured(gathering, OUTER) + layout.coloured(gathering, INNER);
            case 4: return layout.coloured(gathering, OUTER);
            case 5: return layout.coloured(gathering, INNER);
            default: return BAD_VALUE;
        }
    }

    public int ifChosen(int lot, boolean blank, int place) {
        if (!now.has(lot)) {
            return UNKNOWN;
        }
        if (!now.allows(lot, place)) {
            return BAD_VALUE;
        }
        tried.copy(now);
        tried.putChoice(lot, blank ? 1 : 0, place);
        return costOf(tried);
    }

    public int cheapest(int lot, int what) {
        if (!now.has(lot)) {
            return UNKNOWN;
        }
        if (what < 0 || what > 1) {
            return BAD_VALUE;
        }
        if (!planner.solve(now, now.setting(SIZE))) {
            return NOT_POSSIBLE;
        }
        if (what == 0) {
            return planner.chosen().blank(lot);
        }
        return now.plate(lot) == 0 ? NONE : planner.chosen().place(lot);
    }

    public int leastCost(int size) {
        if (!isSetting(SIZE, size)) {
            return BAD_VALUE;
        }
        return planner.solve(now, size) ? costOf(planner.chosen()) : NOT_POSSIBLE;
    }

    public int count(int what) {
        layout.lay(now);
        switch (what) {
            case 0: return now.lots();
            case 1: return now.plates(BLACK) + now.plates(COLOUR);
            case 2: return now.plates(COLOUR);
            case 3: return facingPlates();
            case 4: return now.pages();
            case 5: return layout.gatherings();
            case 6: return layout.allPages();
            case 7: return layout.colouredSides();
            case 8: return now.blanks();
            case 9: return costOf(now);
            case 10: return now.setting(SIZE);
            case 11: return now.setting(GATHERING_COST);
            case 12: return now.setting(SIDE_COST);
            case 13: return now.setting(BLANK_COST);
            case 14: return now.setting(COPIES);
            case 15: return history.states();
            case 16: return typed.length();
            default: return BAD_VALUE;
        }
    }

    private static boolean isText(int text) {
        return text >= 1 && text <= MOST_TEXT;
    }

    private static boolean isPlate(int plate) {
        return plate >= 0 && plate <= COLOUR;
    }

    private static boolean isSetting(int which, int value) {
        if (which == SIZE) {
            return value == 4 || value == 8 || value == 16;
        }
        return value >= 0 && value <= (which == COPIES ? 999 : 99);
    }

    private int costOf(Catalogue catalogue) {
        layout.lay(catalogue);
        return layout.gatherings() * catalogue.costOfGathering()
            + layout.colouredSides() * catalogue.setting(SIDE_COST)
            + catalogue.blanks() * catalogue.setting(BLANK_COST);
    }

    private int facingPlates() {
        int facing = 0;
        for (int lot = 0; lot < now.lots(); lot++) {
            if (now.plate(lot) != 0 && layout.whyNotFacing(lot) == Layout.FACING) {
                facing++;
            }
        }
        return facing;
    }

    private static int gatheringOfPage(int page, int size) {
        return page < 1 || size < 1 ? 0 : (page - 1) / size;
    }

    private static int gatheringsFor(int pages, int size) {
        return pages < 1 ? 0 : gatheringOfPage(pages, size) + 1;
    }

    /** Every size of gatherings is divided by 4, so the number in the whole tells the side too. */
    private static int sideOfPage(int page) {
        int left = page & 3;
        return left == 0 || left == 1 ? OUTER : INNER;
    }

    /** Arrays are read and written here alone, so that no index goes untested. */
    private static final class Row {
        private final int[] cells;

        Row(int size) {
            cells = new int[size < 0 ? 0 : size];
        }

        int at(int index) {
            return index >= 0 && index < cells.length ? cells[index] : 0;
        }

        void put(int index, int value) {
            if (index >= 0 && index < cells.length) {
                cells[index] = value;
            }
        }

        void copy(int to, Row source, int from, int length) {
            for (int i = 0; i < length; i++) {
                put(to + i, source.at(from + i));
            }
        }
    }

    /** One row holds a whole state, so that history and snapshot copy it in one go. */
    private static final class Catalogue {
        private static final int FIELDS = 4;
        private static final int TEXT = 1;
        private static final int PLATE = 2;
        private static final int BLANK = 3;
        private static final int PLACE = 4;
        private static final int LOT_CELLS = 1 + MOST_LOTS * FIELDS;
        static final int CELLS = LOT_CELLS + SETTINGS;

        private final Row cells = new Row(CELLS);

        Catalogue() {
            cells.put(LOT_CELLS + SIZE, 8);
            cells.put(LOT_CELLS + GATHERING_COST, 10);
            cells.put(LOT_CELLS + SIDE_COST, 20);
            cells.put(LOT_CELLS + BLANK_COST, 1);
            cells.put(LOT_CELLS + COPIES, 100);
        }

        int lots() {
            return cells.at(0);
        }

        boolean has(int lot) {
            return lot >= 0 && lot < lots();
        }

        int text(int lot) {
            return cells.at(lot * FIELDS + TEXT);
        }

        int plate(int lot) {
            return cells.at(lot * FIELDS + PLATE);
        }

        int blank(int lot) {
            return cells.at(lot * FIELDS + BLANK);
        }

        int place(int lot) {
            return cells.at(lot * FIELDS + PLACE);
        }

        int setting(int which) {
            return cells.at(LOT_CELLS + which);
        }

        void putSetting(int which, int value) {
            cells.put(LOT_CELLS + which, value);
        }

        int mostPlace(int lot) {
            return plate(lot) == 0 ? 0 : text(lot);
        }

        boolean allows(int lot, int place) {
            return place >= 0 && place <= mostPlace(lot);
        }

        int ownPages(int lot) {
            return text(lot) + (plate(lot) == 0 ? 0 : 1);
        }

        int pages() {
            int pages = 0;
            for (int lot = 0; lot < lots(); lot++) {
                pages += blank(lot) + ownPages(lot);
            }
            return pages;
        }

        int blanks() {
            int blanks = 0;
            for (int lot = 0; lot < lots(); lot++) {
                blanks += blank(lot);
            }
            return blanks;
        }

        int plates(int plate) {
            int plates = 0;
            for (int lot = 0; lot < lots(); lot++) {
                plates += plate(lot) == plate ? 1 : 0;
            }
            return plates;
        }

        int costOfGathering() {
            return setting(GATHERING_COST) + setting(COPIES) / 10;
        }

        void putLot(int lot, int text, int plate, int blank, int place) {
            cells.put(lot * FIELDS + TEXT, text);
            cells.put(lot * FIELDS + PLATE, plate);
            putChoice(lot, blank, place);
        }

        void putChoice(int lot, int blank, int place) {
            cells.put(lot * FIELDS + BLANK, blank);
            cells.put(lot * FIELDS + PLACE, place);
        }

        void append(int text, int plate, int blank, int place) {
            int lot = lots();
            if (lot < MOST_LOTS) {
                putLot(lot, text, plate, blank, place);
                cells.put(0, lot + 1);
            }
        }

        void empty() {
            cells.put(0, 0);
        }

        void drop(int lot) {
            int last = lots() - 1;
            shift(lot, last);
            cells.put(0, last);
        }

        void shift(int lot, int to) {
            int text = text(lot);
            int plate = plate(lot);
            int blank = blank(lot);
            int place = place(lot);
            for (int i = lot; i < to; i++) {
                copyLot(i, i + 1);
            }
            for (int i = lot; i > to; i--) {
                copyLot(i, i - 1);
            }
            putLot(to, text, plate, blank, place);
        }

        private void copyLot(int to, int from) {
            putLot(to, text(from), plate(from), blank(from), place(from));
        }

        boolean sameLots(Catalogue other) {
            boolean same = lots() == other.lots();
            for (int i = 1; i <= lots() * FIELDS; i++) {
                same = same && cells.at(i) == other.cells.at(i);
            }
            return same;
        }

        void takeLots(Catalogue other) {
            cells.copy(0, other.cells, 0, LOT_CELLS);
        }

        void copy(Catalogue other) {
            cells.copy(0, other.cells, 0, CELLS);
        }

        void writeTo(Row shelf, int from) {
            shelf.copy(from, cells, 0, CELLS);
        }

        void readFrom(Row shelf, int from) {
            cells.copy(0, shelf, from, CELLS);
        }
    }

    private static final class History {
        private final Row shelf = new Row(MOST_STATES * Catalogue.CELLS);
        private int states = 0;

        History() {
        }

        int states() {
            return states;
        }

        void record(Catalogue state) {
            if (states >= MOST_STATES) {
                states = MOST_STATES - 1;
                shelf.copy(0, shelf, Catalogue.CELLS, states * Catalogue.CELLS);
            }
            state.writeTo(shelf, states * Catalogue.CELLS);
            states++;
        }

        void takeLatest(Catalogue state) {
            if (states > 0) {
                states--;
                state.readFrom(shelf, states * Catalogue.CELLS);
            }
        }
    }

    private static final class Typed {
        private static final int END = -1;

        private final Row characters = new Row(MOST_CHARACTERS);
        private int length = 0;

        Typed() {
        }

        int length() {
            return length;
        }

        void append(char character) {
            characters.put(length, character);
            length++;
        }

        void empty() {
            length = 0;
        }

        /** Behind the end stands a sign that nobody can type, so that the reader needs no test of the end. */
        int at(int index) {
            return index >= 0 && index < length ? characters.at(index) : END;
        }
    }

    private static final class Reader {
        static final int NO_FAULT = -1;

        private final Catalogue read = new Catalogue();
        private int at = 0;
        private int lotsRead = 0;

        Reader() {
        }

        Catalogue catalogue() {
            return read;
        }

        int lotsRead() {
            return lotsRead;
        }

        int faultOf(Typed typed) {
            read.empty();
            lotsRead = 0;
            at = 0;
            for (int i = 0; i <= MOST_CHARACTERS; i++) {
                if (!readLot(typed)) {
                    return at;
                }
                if (at == typed.length()) {
                    return NO_FAULT;
                }
                if (!takes(typed, ',')) {
                    return at;
                }
            }
            return at;
        }

        private boolean readLot(Typed typed) {
            int text = typed.at(at) - '0';
            if (!isText(text)) {
                return false;
            }
            at++;
            int plate = takes(typed, 'b') ? BLACK : takes(typed, 'c') ? COLOUR : 0;
            int place = 0;
            if (plate != 0 && takes(typed, '@')) {
                place = typed.at(at) - '0';
                if (place < 0 || place > text) {
                    return false;
                }
                at++;
            }
            int blank = takes(typed, '+') ? 1 : 0;
            // Lots beyond the room are counted only: their faults are to be told ahead of FULL.
            read.append(text, plate, blank, place);
            lotsRead++;
            return true;
        }

        private boolean takes(Typed typed, char sign) {
            if (typed.at(at) != sign) {
                return false;
            }
            at++;
            return true;
        }
    }

    /** The pages of a catalogue, numbered from 1, as they are bound. */
    private static final class Layout {
        static final int FACING = 0;
        private static final int ALONE = 1;
        private static final int OF_ANOTHER_LOT = 2;
        private static final int BY_A_BLANK = 3;

        private final Row owners = new Row(MOST_PAGES + 1);
        private final Row kinds = new Row(MOST_PAGES + 1);
        private final Row firstPages = new Row(MOST_LOTS);
        private final Row platePages = new Row(MOST_LOTS);
        private int size = 0;
        private int laid = 0;
        private int gatherings = 0;

        Layout() {
        }

        void lay(Catalogue catalogue) {
            size = catalogue.setting(SIZE);
            laid = 0;
            for (int lot = 0; lot < catalogue.lots(); lot++) {
                layLot(catalogue, lot);
            }
            gatherings = gatheringsFor(laid, size);
            int wanting = gatherings * size - laid;
            for (int i = 0; i < wanting; i++) {
                layPage(NONE, END_BLANK);
            }
        }

        private void layLot(Catalogue catalogue, int lot) {
            if (catalogue.blank(lot) != 0) {
                layPage(NONE, PUT_BLANK);
            }
            firstPages.put(lot, laid + 1);
            platePages.put(lot, 0);
            for (int ahead = 0; ahead <= catalogue.text(lot); ahead++) {
                if (catalogue.plate(lot) != 0 && catalogue.place(lot) == ahead) {
                    layPage(lot, catalogue.plate(lot) == COLOUR ? COLOUR_PAGE : COLOUR_PAGE - 1);
                    platePages.put(lot, laid);
                }
                if (ahead < catalogue.text(lot)) {
                    layPage(lot, TEXT_PAGE);
                }
            }
        }

        private void layPage(int owner, int kind) {
            laid++;
            owners.put(laid, owner);
            kinds.put(laid, kind);
        }

        int gatherings() {
            return gatherings;
        }

        int allPages() {
            return laid;
        }

        boolean hasPage(int page) {
            return page >= 1 && page <= laid;
        }

        int owner(int page) {
            return owners.at(page);
        }

        int kind(int page) {
            return kinds.at(page);
        }

        int firstPage(int lot) {
            return firstPages.at(lot);
        }

        int platePage(int lot) {
            return platePages.at(lot);
        }

        int gatheringOf(int page) {
            return gatheringOfPage(page, size);
        }

        int otherPage(int page) {
            if (page <= 1 || page >= laid) {
                return NONE;
            }
            return (page & 1) == 0 ? page + 1 : page - 1;
        }

        int whyNotFacing(int lot) {
            int page = platePage(lot);
            if (page == 0) {
                return FACING;
            }
            int other = otherPage(page);
            if (other == NONE) {
                return ALONE;
            }
            if (isBlank(other)) {
                return BY_A_BLANK;
            }
            return owner(other) == lot ? FACING : OF_ANOTHER_LOT;
        }

        private boolean isBlank(int page) {
            return kind(page) == PUT_BLANK || kind(page) == END_BLANK;
        }

        private boolean isPlatePage(int page) {
            return !isBlank(page) && kind(page) != TEXT_PAGE;
        }

        int lotsIn(int gathering) {
            int lots = 0;
            int latest = NONE;
            for (int i = 1; i <= size; i++) {
                int owner = owner(gathering * size + i);
                if (owner != NONE && owner != latest) {
                    lots++;
                    latest = owner;
                }
            }
            return lots;
        }

        int platesIn(int gathering) {
            int plates = 0;
            for (int i = 1; i <= size; i++) {
                plates += isPlatePage(gathering * size + i) ? 1 : 0;
            }
            return plates;
        }

        int blanksIn(int gathering) {
            int blanks = 0;
            for (int i = 1; i <= size; i++) {
                blanks += isBlank(gathering * size + i) ? 1 : 0;
            }
            return blanks;
        }

        int coloured(int gathering, int side) {
            for (int i = 1; i <= size; i++) {
                int page = gathering * size + i;
                if (sideOfPage(page) == side && kind(page) == COLOUR_PAGE) {
                    return 1;
                }
            }
            return 0;
        }

        int colouredSides() {
            int sides = 0;
            for (int gathering = 0; gathering < gatherings; gathering++) {
                sides += coloured(gathering, OUTER) + coloured(gathering, INNER);
            }
            return sides;
        }
    }

    /**
     * Finds the cheapest choices from the last lot to the first. What the lots ahead leave to the
     * later ones is only how many blanks they put and which sides of the gathering of the next page
     * are in colour: the least cost of the rest is kept for each lot and each such standing.
     */
    private static final class Planner {
        private static final int SIDES = 4;
        private static final int STANDINGS = (MOST_LOTS + 1) * SIDES;
        private static final int IMPOSSIBLE = 1000000;

        private final Catalogue chosen = new Catalogue();
        private final Row ahead = new Row(MOST_LOTS + 1);
        private final Row least = new Row((MOST_LOTS + 1) * STANDINGS);
        private int size = 0;

        Planner() {
        }

        Catalogue chosen() {
            return chosen;
        }

        boolean solve(Catalogue catalogue, int sizeOfGatherings) {
            size = sizeOfGatherings;
            chosen.copy(catalogue);
            chosen.putSetting(SIZE, size);
            countPagesAhead();
            weighEnds();
            for (int lot = chosen.lots() - 1; lot >= 0; lot--) {
                weigh(lot);
            }
            if (leastFrom(0, 0) >= IMPOSSIBLE) {
                return false;
            }
            int standing = 0;
            for (int lot = 0; lot < chosen.lots(); lot++) {
                chooseFirst(lot, standing);
                standing = standingBehind(lot, standing, chosen.blank(lot), chosen.place(lot));
            }
            return true;
        }

        private void countPagesAhead() {
            ahead.put(0, 0);
            for (int lot = 0; lot < chosen.lots(); lot++) {
                ahead.put(lot + 1, ahead.at(lot) + chosen.ownPages(lot));
            }
        }

        private void weighEnds() {
            int lots = chosen.lots();
            for (int standing = 0; standing < (lots + 1) * SIDES; standing++) {
                int gatherings = gatheringsFor(pagesAhead(lots, standing), size);
                putLeast(lots, standing, gatherings * chosen.costOfGathering());
            }
        }

        private void weigh(int lot) {
            for (int standing = 0; standing < (lot + 1) * SIDES; standing++) {
                int cost = IMPOSSIBLE;
                for (int blank = 0; blank <= 1; blank++) {
                    for (int place = 0; place <= chosen.mostPlace(lot); place++) {
                        cost = Math.min(cost, costThrough(lot, standing, blank, place));
                    }
                }
                putLeast(lot, standing, cost);
            }
        }

        /** Of equal costs the lesser choice of the earlier lot is due. */
        private void chooseFirst(int lot, int standing) {
            int cost = leastFrom(lot, standing);
            for (int blank = 0; blank <= 1; blank++) {
                for (int place = 0; place <= chosen.mostPlace(lot); place++) {
                    if (costThrough(lot, standing, blank, place) == cost) {
                        chosen.putChoice(lot, blank, place);
                        return;
                    }
                }
            }
        }

        private int costThrough(int lot, int standing, int blank, int place) {
            int first = pagesAhead(lot, standing) + 1;
            int page = first + blank + place;
            if (chosen.plate(lot) != 0 && !faces(page, place, chosen.text(lot))) {
                return IMPOSSIBLE;
            }
            int cost = leastFrom(lot + 1, standingBehind(lot, standing, blank, place))
                + blank * chosen.setting(BLANK_COST);
            if (chosen.plate(lot) == COLOUR && (sidesAt(first, standing, page) & bitOf(page)) == 0) {
                cost += chosen.setting(SIDE_COST);
            }
            return Math.min(cost, IMPOSSIBLE);
        }

        /** The other page is of the same lot only if text stands on that hand of the plate. */
        private static boolean faces(int page, int place, int text) {
            return (page & 1) == 0 ? place < text : place > 0;
        }

        private int standingBehind(int lot, int standing, int blank, int place) {
            int first = pagesAhead(lot, standing) + 1;
            int page = first + blank + place;
            int next = pagesAhead(lot + 1, standing) + blank + 1;
            int sides = sidesAt(first, standing, next);
            boolean carried = gatheringOfPage(page, size) == gatheringOfPage(next, size);
            if (chosen.plate(lot) == COLOUR && carried) {
                sides = sides | bitOf(page);
            }
            return (blanksIn(standing) + blank) * SIDES + sides;
        }

        private int sidesAt(int first, int standing, int page) {
            boolean carried = gatheringOfPage(first, size) == gatheringOfPage(page, size);
            return carried ? standing & (SIDES - 1) : 0;
        }

        private static int bitOf(int page) {
            return sideOfPage(page) == OUTER ? 1 : 2;
        }

        private static int blanksIn(int standing) {
            return standing / SIDES;
        }

        private int pagesAhead(int lot, int standing) {
            return ahead.at(lot) + blanksIn(standing);
        }

        private int leastFrom(int lot, int standing) {
            return least.at(lot * STANDINGS + standing);
        }

        private void putLeast(int lot, int standing, int cost) {
            least.put(lot * STANDINGS + standing, cost);
        }
    }
}
