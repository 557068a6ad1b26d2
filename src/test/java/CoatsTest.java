/** Promises 13 to 17: round, can, plan, ways, suns. */
final class CoatsTest {
    public static void main(String[] args) {
        round();
        roundOfSeveralIsTheFirst();
        roundRefused();
        can();
        canRefused();
        plan();
        planLeavesOutTheDressed();
        planRefused();
        ways();
        suns();
        sunsRefused();
        Check.end("CoatsTest");
    }

    private static void order(FogTailors x, int set, int when, int... order) {
        Check.due("round(" + set + ", -1)", x.round(set, -1), when);
        for (int k = 0; k < 6; k++) {
            int want = k < order.length ? order[k] : FogTailors.NONE;
            Check.due("round(" + set + ", " + k + ")", x.round(set, k), want);
        }
    }

    private static void round() {
        FogTailors x = Check.told("d9 0 9;c0 3 0 8;c0 6 1 20;c0 8 3 5;c0 2 3 12;c0 4 0 3;t30;");
        order(x, 31, 50, 3, 0, 1, 2, 4);
        order(x, 9, 22, 3, 0);
        order(x, 4, 13, 2);
        order(x, 0, 0);
        x.cuts(0, 3);
        x.sews(0);
        order(x, 9, 22, 3, 0);
    }

    private static void roundOfSeveralIsTheFirst() {
        FogTailors x = Check.told("c0 5 0 5;c0 5 0 5;c0 5 0 5;c0 5 0 5;c0 5 0 5;c0 5 0 5;");
        order(x, 63, 35, 0, 1, 2, 3, 4, 5);
        order(x, 42, 20, 1, 3, 5);
        // With the long sewing at first, nothing else holds it up: the others come by numbers.
        FogTailors y = Check.told("c0 9 0 1;c0 1 0 30;c0 4 0 2;");
        order(y, 7, 34, 1, 0, 2);
    }

    private static void roundRefused() {
        FogTailors x = Check.told("c0 9 0 1;c0 1 0 30;");
        Check.due("round(4, 0)", x.round(4, 0), FogTailors.BAD);
        Check.due("round(-1, 0)", x.round(-1, 0), FogTailors.BAD);
        Check.due("round(64, 0)", x.round(64, 0), FogTailors.BAD);
        Check.due("round(3, -2)", x.round(3, -2), FogTailors.BAD);
        Check.due("round(3, 6)", x.round(3, 6), FogTailors.BAD);
        Check.due("round(3, 5)", x.round(3, 5), FogTailors.NONE);
        Check.due("round(MIN, 0)", x.round(Integer.MIN_VALUE, 0), FogTailors.BAD);
    }

    private static void can() {
        FogTailors x = Check.told("d7 0 7;d8 1 6;d6 0 60;d20 0 20;c0 3 0 8;c0 4 3 8;c0 2 1 8;t19;");
        Check.due("the empty set", x.can(0, 0), 1);
        Check.due("it just has the yards, and lifts just then; at ten", x.can(0, 3), 1);
        Check.due("cut too late", x.can(1, 6), 1);
        Check.due("a fog that does not suit", x.can(1, 1), 0);
        Check.due("a fog that does not suit one", x.can(0, 5), 0);
        Check.due("too few yards", x.can(2, 3), 0);
        Check.due("yards enough", x.can(2, 2), 1);
        Check.due("enough", x.can(3, 3), 1);
        x.cuts(0, 3);
        Check.due("what is cut does not matter", x.can(0, 3), 1);
        x.sews(0);
        Check.due("nor who is dressed", x.can(0, 3), 1);
        x.dawn();
        Check.due("nor what has gone by", x.can(0, 3), 1);
        FogTailors y = Check.told("d7 0 7;c0 3 0 8;c0 4 3 8;t18;");
        Check.due("not sewn at ten", y.can(0, 3), 0);
        Check.due("one is sewn at ten", y.can(0, 2), 1);
        FogTailors z = Check.told("d9 0 6;c0 3 0 8;c0 4 3 8;t18;");
        Check.due("it lifts ahead", z.can(0, 3), 0);
    }

    private static void canRefused() {
        FogTailors x = Check.told("d7 0 7;c0 3 0 8;");
        Check.due("can(1, 0)", x.can(1, 0), FogTailors.BAD);
        Check.due("can(-1, 0)", x.can(-1, 0), FogTailors.BAD);
        Check.due("can(0, 2)", x.can(0, 2), FogTailors.BAD);
        Check.due("can(0, -1)", x.can(0, -1), FogTailors.BAD);
        Check.due("can(0, MIN)", x.can(0, Integer.MIN_VALUE), FogTailors.BAD);
    }

    private static void told(FogTailors x, int from, int many, int... dawns) {
        Check.due("plan(" + from + ", -1)", x.plan(from, -1), many);
        for (int c = 0; c < dawns.length; c++) {
            Check.due("plan(" + from + ", " + c + ")", x.plan(from, c), dawns[c]);
        }
    }

    private static void plan() {
        int none = FogTailors.NONE;
        FogTailors x = Check.told(
            "d40 0 40;d40 0 10;d10 0 40;d40 1 60;c0 5 3 9;c1 5 3 9;c2 5 0 9;c3 7 0 2;c4 2 1 30;c5 12 3 1;t40;k12;");
        told(x, 0, 6, 0, 0, 0, 0, 3, 0);
        told(x, 1, 5, 1, 1, 2, none, 3, 3);
        told(x, 2, 4, 2, 2, none, none, 3, 3);
        told(x, 4, 0, none, none, none, none, none, none);
        // The first is left out, as it would take the room of two.
        FogTailors y = Check.told("d4 0 60;c0 4 0 1;c0 2 0 1;c0 2 0 1;");
        told(y, 0, 2, none, 0, 0);
        // Several ways: the lowest DAWN for the first one.
        FogTailors z = Check.told("d2 0 60;d2 0 60;c0 2 0 1;c0 2 0 1;c0 2 0 1;");
        told(z, 0, 2, 0, 1, none);
        told(z, 1, 1, 1, none, none);
    }

    private static void planLeavesOutTheDressed() {
        FogTailors x = Check.told("d4 0 60;d4 0 60;c0 4 0 1;c0 4 0 1;c0 4 0 1;");
        told(x, 0, 2, 0, 1, FogTailors.NONE);
        x.cuts(0, 4);
        told(x, 0, 2, 0, 1, FogTailors.NONE);
        x.sews(0);
        told(x, 0, 2, FogTailors.NONE, 0, 1);
        told(x, 1, 1, FogTailors.NONE, 1, FogTailors.NONE);
        x.undo();
        told(x, 0, 2, 0, 1, FogTailors.NONE);
    }

    private static void planRefused() {
        FogTailors x = Check.told("d4 0 60;d4 0 60;c0 4 0 1;");
        Check.due("plan(3, -1)", x.plan(3, -1), FogTailors.BAD);
        Check.due("plan(-1, -1)", x.plan(-1, -1), FogTailors.BAD);
        Check.due("plan(0, 1)", x.plan(0, 1), FogTailors.BAD);
        Check.due("plan(0, -2)", x.plan(0, -2), FogTailors.BAD);
        Check.due("plan(2, 0)", x.plan(2, 0), FogTailors.NONE);
        Check.due("plan(2, -1)", x.plan(2, -1), 0);
    }

    private static void ways() {
        FogTailors x = Check.told("d12 0 15;d8 1 9;d20 0 20;d3 2 1;c0 3 0 8;c0 12 3 9;c0 4 1 5;c0 9 1 1;");
        int[][] due = {{2, 2, 0, 0}, {2, 8 + 11 + 3 + 8 + 0 + 3, 52 + 24 + 27 + 24, 44 + 36 + 28}, {1, 0, 0, 0}, {0, 0, 0, 0}};
        for (int c = 0; c < 4; c++) {
            for (int p = 0; p < 4; p++) {
                Check.due("ways(" + c + ", " + p + ")", x.ways(c, p), due[c][p]);
            }
        }
        x.dawn();
        x.dawn();
        Check.due("dawns gone by, too", x.ways(0, 1), 2);
        Check.due("ways(4, 0)", x.ways(4, 0), FogTailors.BAD);
        Check.due("ways(-1, 0)", x.ways(-1, 0), FogTailors.BAD);
        Check.due("ways(0, 4)", x.ways(0, 4), FogTailors.BAD);
        Check.due("ways(0, -1)", x.ways(0, -1), FogTailors.BAD);
        FogTailors y = Check.told("c0 3 0 8;");
        Check.due("no dawns", y.ways(0, 0), 0);
        FogTailors z = Check.told("d5 0 5;c0 3 0 8;");
        z.cuts(0, 3);
        Check.due("yards as told, whatever is cut", z.ways(0, 0), 1);
    }

    private static void odds(FogTailors x, int tenths, int k, int upper, int lower) {
        Check.due("suns(" + tenths + ", " + k + ", 0)", x.suns(tenths, k, 0), upper);
        Check.due("suns(" + tenths + ", " + k + ", 1)", x.suns(tenths, k, 1), lower);
    }

    private static void suns() {
        FogTailors x = Check.told("d1 0 1;d1 0 1;d1 0 1;");
        odds(x, 5, 0, 1, 8);
        odds(x, 5, 1, 1, 2);
        odds(x, 5, 2, 7, 8);
        odds(x, 5, 3, 1, 1);
        odds(x, 5, 4, 1, 1);
        odds(x, 3, 0, 343, 1000);
        odds(x, 3, 1, 98, 125);
        odds(x, 0, 0, 1, 1);
        odds(x, 10, 2, 0, 1);
        odds(x, 10, 3, 1, 1);
        FogTailors y = Check.told("d1 0 1;d1 0 1;d1 0 1;d1 0 1;");
        odds(y, 1, 0, 6561, 10000);
        odds(y, 10, 0, 0, 1);
        odds(y, 2, 3, 624, 625);
        odds(y, 7, 4, 1, 1);
        FogTailors z = new FogTailors();
        odds(z, 10, 0, 1, 1);
    }

    private static void sunsRefused() {
        FogTailors x = Check.told("d1 0 1;");
        Check.due("suns(11, 0, 0)", x.suns(11, 0, 0), FogTailors.BAD);
        Check.due("suns(-1, 0, 0)", x.suns(-1, 0, 0), FogTailors.BAD);
        Check.due("suns(0, 5, 0)", x.suns(0, 5, 0), FogTailors.BAD);
        Check.due("suns(0, -1, 0)", x.suns(0, -1, 0), FogTailors.BAD);
        Check.due("suns(0, 0, 2)", x.suns(0, 0, 2), FogTailors.BAD);
        Check.due("suns(0, 0, -1)", x.suns(0, 0, -1), FogTailors.BAD);
    }
}
