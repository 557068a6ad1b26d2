/** The boundaries of THE TEXT: each NUMBER, how many ITEMS, each letter at each place, blanks, ends that are too early, 120. */
final class TextBoundsTest {
    private interface Read {
        int of(FogTailors x);
    }

    private static final String DAWN = "d1 0 1;";
    private static final String CLIENT = "c0 1 0 1;";
    private static final String FULLEST =
        "d40 2 60;d40 2 60;d40 2 60;d40 2 60;c5 12 3 30;c5 12 3 30;c5 12 3 30;c5 12 3 30;c5 12 3 30;c5 12 3 30;t99;k30;";

    public static void main(String[] args) {
        numbers();
        numbersOfTheLast();
        dawns();
        clients();
        tenAndCellarOnce();
        asAtFirst();
        asAtFirstBehindAFault();
        anewAsOnANewObject();
        firstLetters();
        lettersInsideItems();
        firstFaultCounts();
        endsTooEarly();
        blanks();
        everyLetterIsTyped();
        fullText();
        faultChangesNothing();
        textStaysBehindAFault();
        emptyText();
        Check.end("TextBoundsTest");
    }

    private static void fault(String text, int place) {
        Check.due("marsh() of '" + text + "'", Check.marshOf(text), -10 - place);
    }

    private static void items(String text, int items) {
        Check.due("marsh() of '" + text + "'", Check.marshOf(text), items);
    }

    private static void numbers() {
        number("d", " 0 1;", 1, 40, x -> x.ofDawn(0, 0));
        number("d1 ", " 1;", 0, 2, x -> x.ofDawn(0, 1));
        number("d1 0 ", ";", 1, 60, x -> x.ofDawn(0, 2));
        number("c", " 1 0 1;", 0, 5, x -> x.client(0, 0));
        number("c0 ", " 0 1;", 1, 12, x -> x.client(0, 1));
        number("c0 1 ", " 1;", 0, 3, x -> x.client(0, 2));
        number("c0 1 0 ", ";", 1, 30, x -> x.client(0, 3));
        number("t", ";", 10, 99, x -> x.count(2));
        number("k", ";", 0, 30, x -> x.count(3));
    }

    /** All from 0 to 99: what is let in is read as told, what isn't is the FAULT; so are 100, more, and a 0 ahead. */
    private static void number(String ahead, String behind, int low, int high, Read read) {
        for (int n = 0; n <= 99; n++) {
            String text = ahead + n + behind;
            if (n < low || n > high) {
                fault(text, ahead.length());
            } else {
                Check.due("told by '" + text + "'", read.of(Check.told(text)), n);
            }
        }
        String[] wrong = {"100", "101", "999", "1000", "2147483647", "2147483648", "4294967297", "18446744073709551617",
            "00", "01", "09", "010", "012", "000", "0000000001", "" + "1".repeat(90)};
        for (String each : wrong) {
            fault(ahead + each + behind, ahead.length());
            fault(ahead + each, ahead.length());
        }
    }

    private static void numbersOfTheLast() {
        String dawns = DAWN + DAWN + DAWN;
        fault(dawns + "d41 0 1;", 22);
        fault(dawns + "d40 3 1;", 25);
        fault(dawns + "d40 2 61;", 27);
        items(dawns + "d40 2 60;", 4);
        String clients = CLIENT + CLIENT + CLIENT + CLIENT + CLIENT;
        fault(clients + "c6 1 0 1;", 46);
        fault(clients + "c5 13 0 1;", 48);
        fault(clients + "c5 12 4 1;", 51);
        fault(clients + "c5 12 3 31;", 53);
        items(clients + "c5 12 3 30;", 6);
        FogTailors x = Check.told(FULLEST);
        for (int d = 0; d < 4; d++) {
            Check.due("yards", x.ofDawn(d, 0), 40);
            Check.due("fog", x.ofDawn(d, 1), 2);
            Check.due("lifts", x.ofDawn(d, 2), 60);
            Check.due("left", x.ofDawn(d, 3), 40);
        }
        for (int c = 0; c < 6; c++) {
            Check.due("kind", x.client(c, 0), 5);
            Check.due("needs", x.client(c, 1), 12);
            Check.due("of a fog", x.client(c, 2), 3);
            Check.due("sewing", x.client(c, 3), 30);
        }
    }

    private static void dawns() {
        for (int many = 0; many <= 4; many++) {
            String text = DAWN.repeat(many);
            items(text, many);
            Check.due("dawns of '" + text + "'", Check.told(text).count(0), many);
        }
        String four = DAWN.repeat(4);
        fault(four + DAWN, 28);
        fault(four + "d", 28);
        fault(four + "  d", 30);
        fault(four + "d0", 28);
        fault(four + "t10;" + CLIENT + "d1 0 1;", 41);
        fault(CLIENT + four + "k0;" + DAWN, 40);
        items(four + CLIENT + "t10;", 6);
    }

    private static void clients() {
        for (int many = 0; many <= 6; many++) {
            String text = CLIENT.repeat(many);
            items(text, many);
            Check.due("clients of '" + text + "'", Check.told(text).count(1), many);
        }
        String six = CLIENT.repeat(6);
        fault(six + CLIENT, 54);
        fault(six + "c", 54);
        fault(six + " c", 55);
        fault(six + "c6", 54);
        fault(six + DAWN + "c0 1 0 1;", 61);
        fault(DAWN + six + "t10;" + CLIENT, 65);
        items(six + DAWN + "k1;", 8);
    }

    private static void tenAndCellarOnce() {
        items("t10;", 1);
        items("k0;", 1);
        items("t10;k0;", 2);
        items("k0;t10;", 2);
        fault("t10;t10;", 4);
        fault("t10;t", 4);
        fault("t10;k0;t9;", 7);
        fault("t60;t60;", 4);
        fault("k0;k0;", 3);
        fault("k0;k", 3);
        fault("k0;t10;k31;", 7);
        fault("t10;" + DAWN + "k0;" + CLIENT + " t", 24);
    }

    private static void asAtFirst() {
        FogTailors x = Check.told("t99;k30;");
        Check.type(x, DAWN);
        x.marsh();
        Check.due("TEN, not told", x.count(2), 60);
        Check.due("CELLAR, not told", x.count(3), 0);
        Check.type(x, "t10;");
        Check.due("t once in each text", x.marsh(), 1);
        Check.due("TEN", x.count(2), 10);
        Check.due("dawns, not told", x.count(0), 0);
        Check.type(x, "t11;k1;");
        Check.due("t and k once in each text", x.marsh(), 2);
        Check.due("CELLAR", x.count(3), 1);
    }

    /** Neither an earlier text nor one with a FAULT leaves anything of TEN, CELLAR, DAWNS, CLIENTS behind. */
    private static void asAtFirstBehindAFault() {
        FogTailors x = Check.type(new FogTailors(), "t99;k30;d9 0 9;c1 1 0 1;x");
        Check.due("a FAULT", x.marsh(), -10 - 24);
        x.clear();
        for (int times = 1; times <= 3; times++) {
            Check.type(x, "d1 0 1;");
            Check.due("one item", x.marsh(), 1);
            Check.due("TEN, not told", x.count(2), 60);
            Check.due("CELLAR, not told", x.count(3), 0);
            Check.due("DAWNS", x.count(0), 1);
            Check.due("CLIENTS", x.count(1), 0);
        }
        for (int times = 1; times <= 3; times++) {
            Check.type(x, "t10;k9;");
            Check.due("t and k once in each text", x.marsh(), 2);
            Check.due("TEN", x.count(2), 10);
            Check.due("CELLAR", x.count(3), 9);
            x.marsh();
            x.marsh();
            Check.due("TEN, not told", x.count(2), 60);
            Check.due("CELLAR, not told", x.count(3), 0);
        }
    }

    private static void anewAsOnANewObject() {
        for (int dawns = 0; dawns <= 4; dawns++) {
            for (int clients = 0; clients <= 6; clients += 2) {
                String text = "d3 0 3;".repeat(dawns) + "c0 2 0 1;".repeat(clients);
                FogTailors x = Check.told(FULLEST);
                x.cuts(0, 12);
                Check.due("minute", x.now(1), 12);
                Check.type(x, text);
                x.marsh();
                sameAsNew("anew '" + text + "'", x, Check.told(text), dawns, clients);
            }
        }
    }

    private static void sameAsNew(String why, FogTailors x, FogTailors y, int dawns, int clients) {
        for (int what = 0; what < 5; what++) {
            Check.due(why + ": now(" + what + ")", x.now(what), 0);
        }
        for (int from = 0; from <= dawns; from++) {
            Check.due(why + ": plan(" + from + ", -1)", x.plan(from, -1), Math.min(dawns - from, clients));
            for (int c = 0; c < clients; c++) {
                Check.due(why + ": plan(" + from + ", " + c + ")", x.plan(from, c), y.plan(from, c));
            }
        }
        for (int c = 0; c < clients; c++) {
            Check.due(why + ": yards", x.client(c, 4), 0);
            Check.due(why + ": ways", x.ways(c, 0), dawns);
        }
        int all = (1 << clients) - 1;
        Check.due(why + ": round", x.round(all, -1), clients == 0 ? 0 : 2 * clients + 1);
        for (int d = 0; d < dawns; d++) {
            Check.due(why + ": left", x.ofDawn(d, 3), 3);
            Check.due(why + ": can", x.can(d, all), clients == 0 ? 1 : 0);
        }
        Check.due(why + ": from", x.from(), (1 << dawns) - 1);
        Check.due(why + ": suns", x.suns(5, 0, 1), 1 << dawns);
    }

    private static boolean begins(int letter) {
        return letter == 'd' || letter == 'c' || letter == 't' || letter == 'k';
    }

    /** Each letter as the first, and behind an ITEM: what can't stand there is the FAULT, what can is too early an end. */
    private static void firstLetters() {
        for (int letter = 0; letter <= 255; letter++) {
            String one = "" + (char) letter;
            Check.due("marsh() of letter " + letter, Check.marshOf(one), letter == ' ' ? 0 : begins(letter) ? -11 : -10);
            Check.due("marsh() of an item, letter " + letter, Check.marshOf(DAWN + one),
                letter == ' ' ? 1 : begins(letter) ? -18 : -17);
        }
    }

    /** Each letter where a NUMBER or ; is due. */
    private static void lettersInsideItems() {
        for (int letter = 0; letter <= 255; letter++) {
            char put = (char) letter;
            boolean digit = letter >= '0' && letter <= '9';
            boolean blank = letter == ' ';
            // 1, a digit, 0: a NUMBER above 99.
            Check.due("behind YARDS, letter " + letter, Check.marshOf("d1" + put + "0 1;"), blank ? 1 : digit ? -11 : -12);
            Check.due("for YARDS, letter " + letter, Check.marshOf("d" + put + " 0 1;"),
                blank ? -13 : digit && put != '0' ? 1 : -11);
            Check.due("behind LIFTS, letter " + letter, Check.marshOf("d1 0 1" + put + ";"),
                blank || digit ? 1 : put == ';' ? -17 : -16);
            Check.due("for ;, letter " + letter, Check.marshOf("t50" + put), put == ';' ? 1 : blank ? -14 : digit ? -11 : -13);
            Check.due("for FOG, letter " + letter, Check.marshOf("c0 1 " + put + " 9;"),
                blank ? -17 : put >= '0' && put <= '3' ? 1 : -15);
        }
    }

    private static void firstFaultCounts() {
        fault("x y", 0);
        fault("d0 9 99;", 1);
        fault("d1 9 99;", 3);
        fault("d1 2 99;", 5);
        fault("t9;k31;", 1);
        fault("t10;k31;d0", 5);
        fault(DAWN + ";x", 7);
        fault("d1 0 1 x;", 7);
        fault("d1 0 1 100;", 7);
        fault("d1 0 1 01", 7);
        fault("d d 100", 2);
        fault("1d", 0);
        fault("t;", 1);
        fault("tt", 1);
        fault("t1x;", 1);
        fault("t12x;", 3);
        fault("k0d", 2);
        fault("k0 0;", 3);
        fault("D1 0 1;", 0);
        fault("C0 1 0 1;", 0);
        fault("T10;", 0);
        fault("K0;", 0);
    }

    /** Each beginning of a text: the end is a FAULT inside an ITEM, and none behind its ; or where nothing is told. */
    private static void endsTooEarly() {
        String text = " d3 0 9; c1 3 0 8;t 8";
        int itemsSoFar = 0;
        for (int n = 0; n < text.length(); n++) {
            String part = text.substring(0, n);
            itemsSoFar += part.endsWith(";") ? 1 : 0;
            boolean whole = part.isBlank() || part.stripTrailing().endsWith(";");
            Check.due("marsh() of '" + part + "'", Check.marshOf(part), whole ? itemsSoFar : -10 - n);
            Check.due("marsh() of '" + part + "' and blanks", Check.marshOf(part + "   "), whole ? itemsSoFar : -10 - n - 3);
        }
        fault(text, 20);
        fault("t80", 3);
        fault("k", 1);
        fault("k0", 2);
        fault("k0 ", 3);
    }

    private static void blanks() {
        String[] tokens = {"d", "7", " 1 ", "9", ";", "c", "1", " 3 ", "2", " 8", ";", "t", "33", ";", "k", "4", ";"};
        for (int many = 0; many <= 4; many++) {
            String blanks = " ".repeat(many);
            FogTailors x = Check.told(blanks + String.join(blanks, tokens) + blanks);
            Check.due("yards, " + many + " blanks", x.ofDawn(0, 0), 7);
            Check.due("lifts, " + many + " blanks", x.ofDawn(0, 2), 9);
            Check.due("sewing, " + many + " blanks", x.client(0, 3), 8);
            Check.due("ten, " + many + " blanks", x.count(2), 33);
            Check.due("cellar, " + many + " blanks", x.count(3), 4);
        }
        items("d1" + " ".repeat(111) + "0 1  ;", 1);
        fault("d1 01;", 3);
        fault("d10 1;", 5);
        fault("d101;", 1);
        fault("t5 0;", 1);
        fault("t\t50;", 1);
        fault("t50\n;", 3);
        fault("t" + (char) 160 + "50;", 1);
    }

    private static void everyLetterIsTyped() {
        for (int letter = 0; letter <= 255; letter++) {
            FogTailors x = new FogTailors();
            Check.due("type(" + letter + ")", x.type(letter), 1);
            Check.due("type(" + letter + ") again", x.type(letter), 2);
            Check.due("letters", x.count(5), 2);
            Check.due("clear()", x.clear(), 2);
        }
    }

    private static FogTailors with(int letters) {
        FogTailors x = Check.told("t55;");
        for (int n = 1; n <= letters; n++) {
            Check.due("letter " + n, x.type(n == 1 ? 'k' : n == 2 ? '7' : n == letters ? ';' : ' '), n);
        }
        return x;
    }

    private static void fullText() {
        Check.due("the 120th", with(119).type(' '), 120);
        Check.due("the 121st", with(120).type(' '), FogTailors.FULL);
        Twins.unchanged("the 121st", () -> with(120), x -> x.type(0), FogTailors.FULL);
        Twins.unchanged("the 121st", () -> with(120), x -> x.type(255), FogTailors.FULL);
        Twins.unchanged("the 121st, BAD", () -> with(120), x -> x.type(256), FogTailors.BAD);
        Twins.unchanged("the 121st, BAD", () -> with(120), x -> x.type(-1), FogTailors.BAD);
        FogTailors x = with(120);
        Check.due("FULL", x.type('x'), FogTailors.FULL);
        Check.due("of 120 letters", x.marsh(), 1);
        Check.due("CELLAR", x.count(3), 7);
        Check.due("no letters", x.count(5), 0);
        Check.due("room again", x.type('x'), 1);
        FogTailors y = with(120);
        Check.due("clear()", y.clear(), 120);
        Check.due("room again", y.type('x'), 1);
        items(FULLEST + " ".repeat(120 - FULLEST.length()), 12);
        items(" ".repeat(117) + "k0;", 1);
        fault(" ".repeat(118) + "k0", 120);
        fault(" ".repeat(119) + "k", 120);
        fault(" ".repeat(119) + ";", 119);
    }

    private static FogTailors begun(String text) {
        return Check.type(Check.type(Stages.midway(), " "), text);
    }

    /** Stages.midway() has typed t20 already: a place is 4 more, behind the ; that comes first. */
    private static void faultChangesNothing() {
        String[] texts = {"", "x", ";x", ";;", ";t20;", ";d", ";d0", ";d1 0 1", ";d1 0 1;c0 1 0 1;k1;k", ";c0 1 0 31;"};
        int[] places = {4, 4, 5, 5, 5, 6, 6, 11, 24, 12};
        for (int i = 0; i < texts.length; i++) {
            String text = texts[i];
            Twins.unchanged("marsh() of 't20 " + text + "'", () -> begun(text), FogTailors::marsh, -10 - places[i]);
        }
    }

    private static void textStaysBehindAFault() {
        FogTailors x = Check.type(new FogTailors(), "t");
        Check.due("too early", x.marsh(), -11);
        Check.due("too early again", x.marsh(), -11);
        Check.type(x, "50");
        Check.due("too early still", x.marsh(), -13);
        Check.type(x, ";");
        Check.due("whole", x.marsh(), 1);
        Check.due("TEN", x.count(2), 50);
        Check.due("empty then", x.marsh(), 0);
        Check.due("TEN, not told", x.count(2), 60);
    }

    private static void emptyText() {
        FogTailors x = Stages.midway();
        Check.due("letters", x.clear(), 3);
        Check.due("none", x.clear(), 0);
        Check.due("an empty text tells all anew", x.marsh(), 0);
        int[] counts = {0, 0, 60, 0, 0, 0};
        for (int what = 0; what < 6; what++) {
            Check.due("count(" + what + ")", x.count(what), counts[what]);
        }
        for (int what = 0; what < 5; what++) {
            Check.due("now(" + what + ")", x.now(what), 0);
        }
        Check.due("it is over", x.dawn(), FogTailors.STATE);
        Check.due("nothing can be undone", x.undo(), FogTailors.STATE);
        Check.due("images are gone", x.back(1), FogTailors.STATE);
        Check.due("the trace goes on", x.trace(), 1);
        FogTailors y = Stages.midway();
        y.clear();
        Check.type(y, "    ");
        Check.due("blanks alone, the same", y.marsh(), 0);
        Check.due("no clients", y.count(1), 0);
        Check.due("no letters", y.count(5), 0);
    }
}
