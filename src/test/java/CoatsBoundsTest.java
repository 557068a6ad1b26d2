/** The boundaries of ROUND, CAN, PLAN, WAYS, SUNS: each condition by itself, the empty set, no DAWNS, no CLIENTS, all of them. */
final class CoatsBoundsTest {
    private static final int NONE = FogTailors.NONE;
    private static final String SIX = "c0 1 0 1;c0 1 0 1;c0 1 0 1;c0 1 0 1;c0 1 0 1;c0 1 0 1;";

    public static void main(String[] args) {
        roundOfNone();
        roundOfOne();
        roundOfTwo();
        roundOfSix();
        roundWhateverTheyHave();
        roundOfASetThatIsNone();
        canTheEmptySet();
        canHaveJustTheYards();
        canBeCutJustWhenItLifts();
        canBeSewnJustAtTen();
        canSuitAll();
        canWhateverIsDone();
        planOfNothing();
        planFromTheLast();
        planJustCan();
        planTheMostAheadOfTheFirst();
        planTheLowestDawnNoneLast();
        planOfTheDressed();
        planOfAll();
        waysOfNoDawns();
        waysJustOneOfEach();
        waysJustAsManyYards();
        waysOfAll();
        waysWhateverIsDone();
        sunsOfNoDawns();
        sunsOfAll();
        sunsInLeastTerms();
        Check.end("CoatsBoundsTest");
    }

    private static void order(FogTailors x, int set, int when, int... order) {
        Check.due("round(" + set + ", -1)", x.round(set, -1), when);
        for (int k = 0; k <= 5; k++) {
            Check.due("round(" + set + ", " + k + ")", x.round(set, k), k < order.length ? order[k] : NONE);
        }
    }

    private static void roundOfNone() {
        order(new FogTailors(), 0, 0);
        order(Check.told("d9 0 9;"), 0, 0);
        order(Check.told(SIX), 0, 0);
    }

    private static void roundOfOne() {
        for (int c = 0; c < 6; c++) {
            order(Check.told(SIX), 1 << c, 2, c);
        }
        order(Check.told("c0 12 0 30;"), 1, 42, 0);
    }

    /** The one or the other order is done sooner, by one minute; or both at once, and then it goes by numbers. */
    private static void roundOfTwo() {
        order(Check.told("c0 2 0 3;c0 1 0 3;"), 3, 7, 1, 0);
        order(Check.told("c0 1 0 3;c0 2 0 3;"), 3, 7, 0, 1);
        order(Check.told("c0 3 0 1;c0 3 0 2;"), 3, 7, 1, 0);
        order(Check.told("c0 3 0 2;c0 3 0 1;"), 3, 7, 0, 1);
        order(Check.told("c0 3 0 3;c0 3 0 3;"), 3, 9, 0, 1);
        order(Check.told("c0 5 0 5;c0 5 0 6;"), 3, 16, 0, 1);
        order(Check.told("c0 6 0 5;c0 5 0 5;"), 3, 16, 0, 1);
        order(Check.told("c0 6 0 4;c0 5 0 5;"), 3, 15, 1, 0);
    }

    private static void roundOfSix() {
        order(Check.told(SIX), 63, 7, 0, 1, 2, 3, 4, 5);
        order(Check.told(SIX), 62, 6, 1, 2, 3, 4, 5);
        order(Check.told(SIX), 31, 6, 0, 1, 2, 3, 4);
        order(Check.told("c0 12 0 30;".repeat(6)), 63, 192, 0, 1, 2, 3, 4, 5);
        order(Check.told("c0 12 0 1;".repeat(6)), 63, 73, 0, 1, 2, 3, 4, 5);
        // Sewing holds up: the least NEEDS must be cut at first, then all go by numbers.
        order(Check.told("c0 6 0 30;c0 5 0 30;c0 4 0 30;c0 3 0 30;c0 2 0 30;c0 1 0 30;"), 63, 181, 5, 0, 1, 2, 3, 4);
        // Cutting holds up: the least SEWING must come last, the others by numbers.
        order(Check.told("c0 12 0 1;c0 12 0 2;c0 12 0 3;c0 12 0 4;c0 12 0 5;c0 12 0 6;"), 63, 73, 1, 2, 3, 4, 5, 0);
    }

    private static void roundWhateverTheyHave() {
        FogTailors x = Check.told("d40 0 60;c0 2 0 3;c0 1 0 3;");
        x.cuts(0, 2);
        order(x, 3, 7, 1, 0);
        x.sews(0);
        order(x, 3, 7, 1, 0);
        x.dawn();
        order(x, 3, 7, 1, 0);
        order(x, 1, 5, 0);
    }

    private static void roundOfASetThatIsNone() {
        for (int clients = 0; clients <= 6; clients++) {
            FogTailors x = Check.told("c0 1 0 1;".repeat(clients));
            int all = (1 << clients) - 1;
            Check.due("all of " + clients, x.round(all, -1), clients == 0 ? 0 : clients + 1);
            Check.due("one more than " + clients, x.round(all + 1, -1), FogTailors.BAD);
            Check.due("one more than " + clients, x.round(all + 1, 0), FogTailors.BAD);
            Check.due("one beside all of " + clients, x.round(2 * all + 1, -1), FogTailors.BAD);
            Check.due("below the empty one", x.round(-1, -1), FogTailors.BAD);
        }
    }

    private static void canTheEmptySet() {
        Check.due("of the least DAWN", Check.told("d1 0 1;t10;").can(0, 0), 1);
        Check.due("that suits none", Check.told("d1 0 1;c0 12 1 30;t10;").can(0, 0), 1);
        FogTailors x = Check.told("d1 0 1;d1 1 1;d1 2 1;d1 0 1;" + SIX);
        for (int d = 0; d < 4; d++) {
            Check.due("can(" + d + ", 0)", x.can(d, 0), 1);
        }
        Check.due("with no DAWNS", Check.told(SIX).can(0, 0), FogTailors.BAD);
        Check.due("with nothing", new FogTailors().can(0, 0), FogTailors.BAD);
    }

    private static void canHaveJustTheYards() {
        for (int yards = 1; yards <= 9; yards++) {
            FogTailors x = Check.told("d" + yards + " 0 60;c0 3 0 1;c0 2 0 1;c0 4 0 1;");
            for (int set = 0; set < 8; set++) {
                int needs = (set & 1) * 3 + (set >> 1 & 1) * 2 + (set >> 2 & 1) * 4;
                Check.due(yards + " YARDS for " + needs, x.can(0, set), needs <= yards ? 1 : 0);
            }
        }
        Check.due("40 for 40", Check.told("d40 0 60;c0 12 0 1;c0 12 0 1;c0 12 0 1;c0 4 0 1;").can(0, 15), 1);
        Check.due("40 for 41", Check.told("d40 0 60;c0 12 0 1;c0 12 0 1;c0 12 0 1;c0 5 0 1;").can(0, 15), 0);
    }

    private static void canBeCutJustWhenItLifts() {
        for (int lifts = 1; lifts <= 9; lifts++) {
            FogTailors x = Check.told("d40 0 " + lifts + ";c0 3 0 1;c0 2 0 1;c0 4 0 1;");
            for (int set = 0; set < 8; set++) {
                int needs = (set & 1) * 3 + (set >> 1 & 1) * 2 + (set >> 2 & 1) * 4;
                Check.due("lifts at " + lifts + ", cut at " + needs, x.can(0, set), needs <= lifts ? 1 : 0);
            }
        }
        Check.due("the sewing may be behind", Check.told("d40 0 1;c0 1 0 30;").can(0, 1), 1);
    }

    private static void canBeSewnJustAtTen() {
        Check.due("at TEN", Check.told("d40 0 60;c0 1 0 9;t10;").can(0, 1), 1);
        Check.due("behind TEN", Check.told("d40 0 60;c0 1 0 10;t10;").can(0, 1), 0);
        Check.due("behind TEN less", Check.told("d40 0 60;c0 1 0 10;t11;").can(0, 1), 1);
        // ROUND is 13, the second one first; by numbers it would be 14.
        Check.due("ROUND at TEN", Check.told("d40 0 60;c0 2 0 6;c0 1 0 6;t13;").can(0, 3), 1);
        Check.due("ROUND behind TEN", Check.told("d40 0 60;c0 2 0 6;c0 1 0 6;t12;").can(0, 3), 0);
        Check.due("at 60, as at first", Check.told("d40 0 60;c0 1 0 30;c0 1 0 29;").can(0, 3), 1);
        Check.due("behind 60", Check.told("d40 0 60;c0 1 0 30;c0 1 0 30;").can(0, 3), 0);
        Check.due("at 99", Check.told("d40 0 60;c0 1 0 30;c0 1 0 30;c0 1 0 30;c0 1 0 8;t99;").can(0, 15), 1);
        Check.due("behind 99", Check.told("d40 0 60;c0 1 0 30;c0 1 0 30;c0 1 0 30;c0 1 0 9;t99;").can(0, 15), 0);
    }

    private static void canSuitAll() {
        FogTailors x = Check.told("d40 0 60;d40 1 60;d40 2 60;c0 1 0 1;c0 1 1 1;c0 1 2 1;c0 1 3 1;");
        for (int d = 0; d < 3; d++) {
            for (int set = 0; set < 16; set++) {
                boolean others = (set & ~(1 << d) & 7) != 0;
                Check.due("can(" + d + ", " + set + ")", x.can(d, set), others ? 0 : 1);
            }
        }
    }

    private static void canWhateverIsDone() {
        FogTailors x = Check.told("d5 0 5;d5 0 5;c0 3 0 1;c0 2 0 1;t10;");
        Check.due("at first", x.can(0, 3), 1);
        x.cuts(0, 3);
        x.sews(0);
        Check.due("yards are cut, one is DRESSED", x.can(0, 3), 1);
        x.dawn();
        x.dawn();
        Check.due("it has gone by", x.can(0, 3), 1);
        Check.due("OVER", x.can(1, 3), 1);
        Check.due("behind the last", x.can(2, 0), FogTailors.BAD);
    }

    private static void told(FogTailors x, int from, int many, int... dawns) {
        Check.due("plan(" + from + ", -1)", x.plan(from, -1), many);
        for (int c = 0; c < dawns.length; c++) {
            Check.due("plan(" + from + ", " + c + ")", x.plan(from, c), dawns[c]);
        }
        Check.due("plan(" + from + ", " + dawns.length + ")", x.plan(from, dawns.length), FogTailors.BAD);
        Check.due("plan(" + from + ", -2)", x.plan(from, -2), FogTailors.BAD);
    }

    private static void planOfNothing() {
        told(new FogTailors(), 0, 0);
        told(Check.told("d9 0 9;"), 0, 0);
        told(Check.told("d9 0 9;"), 1, 0);
        told(Check.told("c0 1 0 1;c0 1 0 1;"), 0, 0, NONE, NONE);
        Check.due("from 1 of no DAWNS", Check.told("c0 1 0 1;").plan(1, -1), FogTailors.BAD);
        Check.due("from 2 of one", Check.told("d9 0 9;c0 1 0 1;").plan(2, -1), FogTailors.BAD);
        Check.due("from 5 of four", Check.told("d9 0 9;d9 0 9;d9 0 9;d9 0 9;c0 1 0 1;").plan(5, 0), FogTailors.BAD);
    }

    private static void planFromTheLast() {
        FogTailors x = Check.told("d1 0 9;d1 0 9;d1 0 9;d1 0 9;c0 1 0 1;c0 1 0 1;c0 1 0 1;c0 1 0 1;c0 1 0 1;");
        told(x, 0, 4, 0, 1, 2, 3, NONE);
        told(x, 1, 3, 1, 2, 3, NONE, NONE);
        told(x, 3, 1, 3, NONE, NONE, NONE, NONE);
        told(x, 4, 0, NONE, NONE, NONE, NONE, NONE);
        x.dawn();
        x.dawn();
        told(x, 0, 4, 0, 1, 2, 3, NONE);
    }

    private static void planJustCan() {
        told(Check.told("d5 0 9;c0 3 0 1;c0 2 0 1;"), 0, 2, 0, 0);
        told(Check.told("d4 0 9;c0 3 0 1;c0 2 0 1;"), 0, 1, 0, NONE);
        told(Check.told("d9 0 5;c0 3 0 1;c0 2 0 1;"), 0, 2, 0, 0);
        told(Check.told("d9 0 4;c0 3 0 1;c0 2 0 1;"), 0, 1, 0, NONE);
        told(Check.told("d9 0 9;c0 2 0 6;c0 1 0 6;t13;"), 0, 2, 0, 0);
        told(Check.told("d9 0 9;c0 2 0 6;c0 1 0 6;t12;"), 0, 1, 0, NONE);
        told(Check.told("d2 0 9;c0 3 0 1;c0 4 0 1;"), 0, 0, NONE, NONE);
    }

    private static void planTheMostAheadOfTheFirst() {
        told(Check.told("d4 0 9;c0 4 0 1;c0 2 0 1;c0 2 0 1;"), 0, 2, NONE, 0, 0);
        told(Check.told("d4 0 9;d4 0 9;c0 4 0 1;c0 2 0 1;c0 2 0 1;"), 0, 3, 0, 1, 1);
        // The first must leave the lowest DAWN, as the second wants it.
        told(Check.told("d4 0 9;d4 1 9;c0 4 3 1;c0 4 0 1;"), 0, 2, 1, 0);
    }

    private static void planTheLowestDawnNoneLast() {
        told(Check.told("d1 0 9;d1 0 9;c0 1 0 1;"), 0, 1, 0);
        told(Check.told("d1 0 9;c0 1 0 1;c0 1 0 1;"), 0, 1, 0, NONE);
        told(Check.told("d1 1 9;d1 0 9;c0 1 0 1;"), 0, 1, 1);
        told(Check.told("d2 0 9;d1 0 9;c0 1 0 1;c0 1 0 1;c0 1 0 1;c0 1 0 1;"), 0, 3, 0, 0, 1, NONE);
    }

    private static void planOfTheDressed() {
        FogTailors x = Check.told("d2 0 9;c0 1 0 1;c0 1 0 1;c0 1 0 1;");
        told(x, 0, 2, 0, 0, NONE);
        x.cuts(1, 1);
        told(x, 0, 2, 0, 0, NONE);
        x.sews(1);
        told(x, 0, 2, 0, NONE, 0);
        x.cuts(0, 1);
        x.sews(0);
        told(x, 0, 1, NONE, NONE, 0);
        FogTailors y = Check.told("d9 0 9;c0 1 0 1;");
        y.cuts(0, 1);
        y.sews(0);
        told(y, 0, 0, NONE);
        y.dawn();
        told(y, 1, 0, NONE);
    }

    private static void planOfAll() {
        FogTailors x = Check.told("d12 0 12;d12 0 12;d12 0 12;d40 0 60;c0 12 0 1;c0 12 0 1;c0 12 0 1;c0 12 0 1;c0 12 0 1;c0 12 0 1;");
        told(x, 0, 6, 0, 1, 2, 3, 3, 3);
        told(x, 1, 5, 1, 2, 3, 3, 3, NONE);
        told(x, 3, 3, 3, 3, 3, NONE, NONE, NONE);
        told(x, 4, 0, NONE, NONE, NONE, NONE, NONE, NONE);
    }

    private static void ways(String text, int... due) {
        FogTailors x = Check.told(text);
        for (int p = 0; p <= 3; p++) {
            Check.due("ways(0, " + p + ") of " + text, x.ways(0, p), due[p]);
        }
        Check.due("ways(0, 4)", x.ways(0, 4), FogTailors.BAD);
        Check.due("ways(0, -1)", x.ways(0, -1), FogTailors.BAD);
    }

    private static void waysOfNoDawns() {
        ways("c0 1 0 1;", 0, 0, 0, 0);
        ways("d9 1 9;c0 1 0 1;", 0, 0, 0, 0);
        ways("d9 0 9;c0 1 0 1;", 1, 0, 0, 0);
        ways("d9 0 9;d9 1 9;c0 2 0 1;", 1, 0, 0, 0);
        ways("d9 0 9;d9 1 9;c0 2 3 1;", 2, 1, 0, 0);
        Check.due("with nothing", new FogTailors().ways(0, 0), FogTailors.BAD);
        Check.due("with no CLIENTS", Check.told("d9 0 9;").ways(0, 0), FogTailors.BAD);
    }

    private static void waysJustOneOfEach() {
        String four = "d9 0 9;d9 0 9;d9 0 9;d9 0 9;";
        ways(four + "c0 1 0 1;", 4, 0, 0, 0);
        ways(four + "c0 2 0 1;", 4, 6, 0, 0);
        ways(four + "c0 3 0 1;", 4, 12, 4, 0);
        ways(four + "c0 4 0 1;", 4, 18, 12, 1);
        ways(four + "c0 5 0 1;", 4, 24, 24, 4);
    }

    private static void waysJustAsManyYards() {
        ways("d5 0 9;c0 5 0 1;", 1, 0, 0, 0);
        ways("d4 0 9;c0 5 0 1;", 0, 0, 0, 0);
        ways("d3 0 9;d2 0 9;c0 5 0 1;", 0, 1, 0, 0);
        ways("d2 0 9;d2 0 9;c0 5 0 1;", 0, 0, 0, 0);
        ways("d4 0 9;d4 0 9;c0 5 0 1;", 0, 4, 0, 0);
        ways("d5 0 9;d5 0 9;c0 5 0 1;", 2, 4, 0, 0);
        ways("d1 0 1;d1 0 1;d1 0 1;d1 0 1;c0 4 0 1;", 0, 0, 0, 1);
        ways("d1 0 1;d1 0 1;d1 0 1;d1 0 1;c0 5 0 1;", 0, 0, 0, 0);
        // When it LIFTS is of no matter.
        ways("d12 0 1;c0 12 0 30;t10;", 1, 0, 0, 0);
    }

    private static void waysOfAll() {
        ways("d40 0 60;d40 1 60;d40 2 60;d40 0 60;c0 12 3 1;", 4, 66, 220, 165);
        FogTailors x = Check.told("d40 0 60;d40 1 60;d40 2 60;d40 0 60;c0 1 0 1;c0 1 0 1;c0 1 0 1;c0 1 0 1;c0 1 0 1;c0 12 0 1;");
        Check.due("ways(5, 0)", x.ways(5, 0), 2);
        Check.due("ways(5, 1)", x.ways(5, 1), 11);
        Check.due("ways(6, 0)", x.ways(6, 0), FogTailors.BAD);
    }

    private static void waysWhateverIsDone() {
        FogTailors x = Check.told("d3 0 9;d3 0 9;c0 3 0 1;k9;");
        x.cuts(0, 2);
        Check.due("yards are cut", x.ways(0, 0), 2);
        x.dawn();
        x.cuts(0, 1);
        x.sews(0);
        Check.due("he is DRESSED", x.ways(0, 1), 2);
        x.dawn();
        Check.due("OVER", x.ways(0, 0), 2);
    }

    private static void odds(FogTailors x, int tenths, int k, int upper, int lower) {
        Check.due("suns(" + tenths + ", " + k + ", 0)", x.suns(tenths, k, 0), upper);
        Check.due("suns(" + tenths + ", " + k + ", 1)", x.suns(tenths, k, 1), lower);
    }

    private static void sunsOfNoDawns() {
        for (int tenths = 0; tenths <= 10; tenths++) {
            for (int k = 0; k <= 4; k++) {
                odds(new FogTailors(), tenths, k, 1, 1);
                odds(Check.told("c0 1 0 1;"), tenths, k, 1, 1);
            }
        }
    }

    private static void sunsOfAll() {
        for (int dawns = 1; dawns <= 4; dawns++) {
            FogTailors x = Check.told("d1 0 1;".repeat(dawns));
            for (int k = 0; k <= 4; k++) {
                odds(x, 0, k, 1, 1);
                odds(x, 10, k, k < dawns ? 0 : 1, 1);
            }
            for (int tenths = 0; tenths <= 10; tenths++) {
                odds(x, tenths, dawns, 1, 1);
                odds(x, tenths, 4, 1, 1);
            }
        }
    }

    private static void sunsInLeastTerms() {
        FogTailors one = Check.told("d1 0 1;");
        int[][] left = {{1, 1}, {9, 10}, {4, 5}, {7, 10}, {3, 5}, {1, 2}, {2, 5}, {3, 10}, {1, 5}, {1, 10}, {0, 1}};
        for (int tenths = 0; tenths <= 10; tenths++) {
            odds(one, tenths, 0, left[tenths][0], left[tenths][1]);
            odds(one, tenths, 1, 1, 1);
        }
        FogTailors four = Check.told("d1 0 1;d1 0 1;d1 0 1;d1 0 1;");
        odds(four, 5, 0, 1, 16);
        odds(four, 5, 1, 5, 16);
        odds(four, 5, 2, 11, 16);
        odds(four, 5, 3, 15, 16);
        odds(four, 1, 3, 9999, 10000);
        odds(four, 9, 0, 1, 10000);
        odds(four, 9, 1, 37, 10000);
        odds(four, 8, 0, 1, 625);
        four.dawn();
        odds(four, 5, 0, 1, 16);
    }
}
