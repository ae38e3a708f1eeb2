/** The sentences under "TEXTS" and of promises 3, 10 and 11 that name a bound, an empty or a full state. */
final class TextBoundsTest {
    private static final int FULL = FacingPlates.FULL;
    private static final String AT_FIRST = " 8 10 20 1 100";

    /** 60 characters, 12 lots. */
    static final String FULL_TEXT = "3c@3+,3c@3+,3c@3+,3c@3+,3c@3+,3c@3+,3c@3+,3c@3+,3c@3+,3,2,1+";

    /** 60 characters, 13 lots. */
    static final String TOO_MANY = "3c@3+,3c@3+,3c@3+,3c@3+,3c@3+,3c@3+,3c@3+,3c@3+,3b,2b,1b,1,1";

    public static void main(String[] args) {
        emptyAtFirst();
        atMostSixtyCharacters();
        anyCharacter();
        lengthThatItHad();
        oneOrMoreLots();
        commaBetweenTwo();
        pagesOfText();
        plateBehindThat();
        placeOfThePlate();
        placeOnlyBehindAPlate();
        blankBehindThat();
        signsBesideTheAllowed();
        faultAtEachPlace();
        tooEarlyAtEachPlace();
        faultIsAnError();
        moreThanTwelve();
        faultAheadOfFull();
        inPlaceOfTheLots();
        withItsChoices();
        settingsStay();
        theTextStays();
        Checks.finish();
    }

    private static void loads(String text, int lots, String state) {
        FacingPlates x = Checks.typed(text);
        Checks.due("load of '" + text + "'", lots, x.load());
        Checks.state("load of '" + text + "'", x, state + AT_FIRST);
    }

    private static void fault(String text, int index) {
        FacingPlates x = Checks.typed(text);
        Checks.due("fault of '" + text + "'", -100 - index, x.load());
        Checks.state("fault of '" + text + "'", x, AT_FIRST);
    }

    /** "There is a text of at most 60 characters, empty at first." */
    private static void emptyAtFirst() {
        FacingPlates x = new FacingPlates();
        Checks.due("length at first", 0, x.count(16));
        Checks.due("nothing to clear", 0, x.clearText());
        Checks.due("the empty text ends too early", -100, x.load());
        Checks.due("the first character", 1, x.type('1'));
    }

    /** "FULL if it has 60 characters" */
    private static void atMostSixtyCharacters() {
        FacingPlates x = new FacingPlates();
        for (int i = 0; i < 60; i++) {
            Checks.due("type", i + 1, x.type(FULL_TEXT.charAt(i)));
            Checks.due("length", i + 1, x.count(16));
        }
        Checks.due("one more", FULL, x.type(','));
        Checks.due("and one more", FULL, x.type('1'));
        Checks.due("still 60", 60, x.count(16));
        Checks.due("the text is whole", 12, x.load());
        Checks.due("it had 60", 60, x.clearText());
        Checks.due("room again", 1, x.type('3'));
        Checks.due("only what came then", 1, x.load());
        Checks.state("only what came then", x, "3" + AT_FIRST);
    }

    /** "any character" */
    private static void anyCharacter() {
        char[] signs = {0, 1, 9, 10, 13, 32, 127, 128, 255, 256, 0xd800, 0xdfff, 0xfffe, 0xffff};
        FacingPlates x = new FacingPlates();
        for (int i = 0; i < signs.length; i++) {
            Checks.due("type", i + 1, x.type(signs[i]));
        }
        for (char sign : signs) {
            x.clearText();
            x.type(sign);
            Checks.due("a fault at 0", -100, x.load());
            x.clearText();
            x.type('1');
            x.type(sign);
            Checks.due("a fault at 1", -101, x.load());
        }
        int[] allowed = {'1', 'b', '@', '0', '+', ','};
        for (int sign : allowed) {
            FacingPlates y = new FacingPlates();
            for (int before : allowed) {
                y.type((char) (before == sign ? before + 256 : before));
            }
            Checks.due("256 more is another sign", -100 - "1b@0+,".indexOf(sign), y.load());
        }
    }

    /** "Returns the length that it had." */
    private static void lengthThatItHad() {
        FacingPlates x = Checks.typed("x");
        Checks.due("one", 1, x.clearText());
        Checks.due("none", 0, x.clearText());
        Checks.type(x, FULL_TEXT + "1");
        Checks.due("60", 60, x.clearText());
        Checks.due("none", 0, x.clearText());
        Checks.due("length", 0, x.count(16));
    }

    /** "one or more lots" */
    private static void oneOrMoreLots() {
        fault("", 0);
        loads("1", 1, "1");
        loads("1,2", 2, "1,2");
    }

    /** "with \",\" between two": not ahead of the first, behind the last, or twice. */
    private static void commaBetweenTwo() {
        fault(",", 0);
        fault(",1", 0);
        fault("1,", 2);
        fault("1,,1", 2);
        fault("1,2,", 4);
        fault("12", 1);
        fault("1b2", 2);
        fault("1b@01", 4);
        fault("1+1", 2);
        fault("1;1", 1);
        fault("1, 1", 2);
    }

    /** "the pages of text (1 to 3)" */
    private static void pagesOfText() {
        fault("0", 0);
        loads("1", 1, "1");
        loads("3", 1, "3");
        fault("4", 0);
        fault("3,0", 2);
        fault("3,4", 2);
        loads("3,3", 2, "3,3");
    }

    /** "perhaps \"b\" or \"c\" behind that (a plate in black, or in colour)" */
    private static void plateBehindThat() {
        loads("2b", 1, "2b@0");
        loads("2c", 1, "2c@0");
        fault("b", 0);
        fault("2a", 1);
        fault("2d", 1);
        fault("2B", 1);
        fault("2C", 1);
        fault("2bb", 2);
        fault("2bc", 2);
        fault("2cc", 2);
        fault("2cb", 2);
    }

    /** "\"@\" and the place of the plate (0 to as many as there are pages of text ...)" */
    private static void placeOfThePlate() {
        for (int text = 1; text <= 3; text++) {
            for (int place = 0; place <= 9; place++) {
                String lot = text + "c@" + place;
                if (place <= text) {
                    loads(lot, 1, lot);
                    loads("1," + lot + "+", 2, "1," + lot + "+");
                } else {
                    fault(lot, 3);
                    fault("1," + lot, 5);
                }
            }
            fault(text + "b@", 3);
            fault(text + "b@/", 3);
            fault(text + "b@:", 3);
            fault(text + "b@-1", 3);
            fault(text + "b@00", 4);
            fault(text + "b@@", 3);
            fault(text + "b@0@0", 4);
        }
    }

    /** "only behind a plate" */
    private static void placeOnlyBehindAPlate() {
        fault("1@0", 1);
        fault("1@", 1);
        fault("2b,2@1", 4);
        fault("@", 0);
        fault("1+@0", 2);
        fault("1b+@0", 3);
    }

    /** "and perhaps \"+\" (a blank ahead of the lot)" */
    private static void blankBehindThat() {
        loads("1+", 1, "1+");
        loads("1b+", 1, "1b@0+");
        loads("1c@1+", 1, "1c@1+");
        loads("1+,2", 2, "1+,2");
        loads("1,2+", 2, "1,2+");
        fault("+", 0);
        fault("+1", 0);
        fault("1++", 2);
        fault("1+b", 2);
        fault("1b@+", 3);
        fault("1b@0++", 5);
    }

    /** "the first character that is not allowed at its place": all others of the first 256, place by place. */
    private static void signsBesideTheAllowed() {
        String[] ahead = {"", "2", "2b", "2b@", "2b@1", "2b@1+", "2b@1+,", "2,"};
        String[] allowed = {"123", "bc+,", "@+,", "012", "+,", ",", "123", "123"};
        for (int i = 0; i < ahead.length; i++) {
            for (char sign = 0; sign < 256; sign++) {
                FacingPlates x = Checks.typed(ahead[i] + sign);
                int answer = x.load();
                int length = ahead[i].length();
                boolean faulty = answer == -100 - length;
                String what = (int) sign + " behind '" + ahead[i] + "'";
                Checks.due(what, allowed[i].indexOf(sign) < 0 ? 1 : 0, faulty ? 1 : 0);
            }
        }
    }

    /** "The fault of the text is the index, from 0, of the first character that is not allowed at its place" */
    private static void faultAtEachPlace() {
        FacingPlates x = new FacingPlates();
        for (int i = 0; i < 60; i += 6) {
            x.clearText();
            Checks.type(x, FULL_TEXT.substring(0, i));
            x.type('?');
            Checks.due("fault at " + i, -100 - i, x.load());
        }
        for (int i = 0; i < 60; i++) {
            fault(FULL_TEXT.substring(0, i) + "?" + FULL_TEXT.substring(i + 1), i);
            fault(FULL_TEXT.substring(0, i) + "?" + "!".repeat(59 - i), i);
        }
    }

    /** "or the length of the text if it ends too early (the empty text does)" */
    private static void tooEarlyAtEachPlace() {
        for (int length = 0; length <= 60; length++) {
            FacingPlates x = Checks.typed(FULL_TEXT.substring(0, length));
            char last = length == 0 ? ',' : FULL_TEXT.charAt(length - 1);
            boolean early = last == ',' || last == '@';
            int lots = FULL_TEXT.substring(0, length).split(",").length;
            Checks.due("the first " + length, early ? -100 - length : lots, x.load());
        }
        fault("3c@3+,3c@3+,3c@3+,3c@3+,3c@3+,3c@3+,3c@3+,3c@3+,3c@3+,3c@3+,", 60);
        fault("3c@3+,3c@3+,3c@3+,3c@3+,3c@3+,3c@3+,3c@3+,3c@3+,3c@3+,3+,3c@", 60);
    }

    /** "-100 minus the fault of the text if it has one (which is an error)": nothing changes, no state is recorded. */
    private static void faultIsAnError() {
        FacingPlates x = Checks.loaded("2b@1+");
        Checks.type(x, "1,2,3,0");
        Checks.due("fault", -106, x.load());
        Checks.state("nothing changes", x, "2b@1+" + AT_FIRST);
        Checks.due("no state", 1, x.count(15));
        Checks.due("the text stays", 7, x.count(16));
        Checks.due("the same fault", -106, x.load());
    }

    /** "FULL if there would be more than 12" */
    private static void moreThanTwelve() {
        Checks.due("60 characters", 60, FULL_TEXT.length());
        Checks.due("60 characters", 60, TOO_MANY.length());
        Checks.due("twelve", 12, Checks.typed(FULL_TEXT).load());
        FacingPlates x = Checks.loaded("2b@1+");
        Checks.type(x, TOO_MANY);
        Checks.due("thirteen", FULL, x.load());
        Checks.state("nothing changes", x, "2b@1+" + AT_FIRST);
        Checks.due("no state", 1, x.count(15));
        x.clearText();
        Checks.type(x, "1,1,1,1,1,1,1,1,1,1,1,1");
        Checks.due("twelve over one", 12, x.load());
        Checks.due("twelve over twelve", 12, x.load());
        Checks.type(x, ",1");
        Checks.due("thirteen over twelve", FULL, x.load());
        Checks.due("twelve are left", 12, x.count(0));
        for (int i = 0; i < 17; i++) {
            Checks.type(x, ",1");
        }
        Checks.due("thirty over twelve", FULL, x.load());
    }

    /** "the order of the @return line is the order of the checks": the fault goes ahead of FULL. */
    private static void faultAheadOfFull() {
        FacingPlates x = Checks.typed("1,1,1,1,1,1,1,1,1,1,1,1,1");
        Checks.due("thirteen", FULL, x.load());
        x.type('@');
        Checks.due("a fault behind the thirteenth", -125, x.load());
        fault("1,1,1,1,1,1,1,1,1,1,1,1,", 24);
        fault("1,1,1,1,1,1,1,1,1,1,1,1,0", 24);
        fault("1,1,1,1,1,1,1,1,1,1,1,1,1b@2", 27);
        fault(TOO_MANY.substring(0, 59) + "4", 59);
    }

    /** "Makes the catalogue that of the text": fewer, as many and more lots than there were. */
    private static void inPlaceOfTheLots() {
        String[] texts = {"3c@3+,2b@2+,1", "1", "2b@1,3+", "1+,1+,1+,1+,1+,1+,1+,1+,1+,1+,1+,1+", "3c@0"};
        FacingPlates x = new FacingPlates();
        for (String text : texts) {
            x.clearText();
            Checks.type(x, text);
            Checks.due("load", text.split(",").length, x.load());
            Checks.state("load", x, text + AT_FIRST);
        }
    }

    /** "with its choices": those that the text leaves out are the least ones, whatever there was. */
    private static void withItsChoices() {
        FacingPlates x = Checks.loaded("3c@3+,3c@3+");
        Checks.type(x, "3c,3c@1");
        Checks.due("load", 2, x.load());
        Checks.state("no blanks", x, "3c@0,3c@1" + AT_FIRST);
        Checks.type(x, "+");
        Checks.due("load", 2, x.load());
        Checks.state("a blank", x, "3c@0,3c@1+" + AT_FIRST);
        Checks.due("the blank counts", 1, x.count(8));
    }

    /** "Settings stay." */
    private static void settingsStay() {
        FacingPlates x = Checks.typed("2c@1");
        x.set(0, 16);
        x.set(1, 0);
        x.set(2, 99);
        x.set(3, 98);
        x.set(4, 999);
        Checks.due("load", 1, x.load());
        Checks.state("settings", x, "2c@1 16 0 99 98 999");
        x.undo();
        Checks.state("settings behind undo", x, " 16 0 99 98 999");
    }

    /** "that of the text, which stays" */
    private static void theTextStays() {
        FacingPlates x = Checks.typed("1");
        Checks.due("load", 1, x.load());
        Checks.due("the text stays", 1, x.count(16));
        Checks.due("type behind it", 2, x.type('b'));
        Checks.due("load", 1, x.load());
        Checks.state("the longer text", x, "1b@0" + AT_FIRST);
    }
}
