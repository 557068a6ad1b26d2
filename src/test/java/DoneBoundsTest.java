/** The boundaries of what is done: CUT, SEWN, a DAWN that goes by, the CELLAR, UNDONE, OVER; each condition by itself. */
final class DoneBoundsTest {
    public static void main(String[] args) {
        atFirst();
        cutsOneToTwelve();
        cutsWhatIsLeft();
        cutsWhatHeNeeds();
        cutsUntilItLifts();
        cutsWhatSuits();
        cutsNoneForTheDressed();
        sewsAllHeNeeds();
        sewsUntilTen();
        sewsUntilTenAsAtFirst();
        sewsWhateverTheFogDoes();
        sewsOnce();
        cellarHasJustRoom();
        cellarKeepsByNumbers();
        cellarAtItsEnds();
        cellarHasNoRoomForTheDressed();
        dawnsToTheLast();
        over();
        patches();
        undoneOneByOne();
        undoneTen();
        undoneAround();
        undoneOfAllYards();
        undoneNotWhatWasRefused();
        undoneBehindMarsh();
        Check.end("DoneBoundsTest");
    }

    private static void refused(String why, String text, int c, int n) {
        Twins.unchanged(why, () -> Check.told(text), x -> x.cuts(c, n), FogTailors.STATE);
    }

    private static void refusedToSew(String why, String text, int c) {
        Twins.unchanged(why, () -> cut(text, c), x -> x.sews(c), FogTailors.STATE);
    }

    /** All that he needs is cut. */
    private static FogTailors cut(String text, int c) {
        FogTailors x = Check.told(text);
        x.cuts(c, x.client(c, 1));
        return x;
    }

    private static void atFirst() {
        FogTailors x = Check.told("d7 0 9;d8 1 9;c1 3 0 4;c2 5 3 6;");
        Check.due("THE DAWN", x.now(0), 0);
        Check.due("THE MINUTE", x.now(1), 0);
        Check.due("none is DRESSED", x.now(2), 0);
        Check.due("no PATCHES", x.now(3), 0);
        Check.due("nothing can be UNDONE", x.now(4), 0);
        for (int c = 0; c < 2; c++) {
            Check.due("no yards", x.client(c, 4), 0);
            Check.due("no PATCHES", x.client(c, 5), 0);
            Check.due("not DRESSED", x.client(c, 6), 0);
            Check.due("no yards of the first", x.has(c, 0), 0);
            Check.due("no yards of the second", x.has(c, 1), 0);
        }
        Check.due("all is left", x.ofDawn(0, 3), 7);
        Check.due("all is left", x.ofDawn(1, 3), 8);
    }

    private static void cutsOneToTwelve() {
        String text = "d40 0 60;c0 12 0 1;";
        for (int n = 1; n <= 12; n++) {
            FogTailors x = Check.told(text);
            Check.due("cuts(0, " + n + ")", x.cuts(0, n), n);
            Check.due("THE MINUTE is n more", x.now(1), n);
            Check.due("n less are left", x.ofDawn(0, 3), 40 - n);
            Check.due("he has them", x.has(0, 0), n);
            Check.due("it can be UNDONE", x.now(4), 1);
        }
        Twins.unchanged("cuts(0, 0)", () -> Check.told(text), x -> x.cuts(0, 0), FogTailors.BAD);
        Twins.unchanged("cuts(0, 13)", () -> Check.told(text), x -> x.cuts(0, 13), FogTailors.BAD);
    }

    private static void cutsWhatIsLeft() {
        refused("more than it has", "d5 0 60;c0 12 0 1;", 0, 6);
        FogTailors x = Check.told("d5 0 60;c0 12 0 1;c0 12 0 1;");
        Check.due("a part", x.cuts(0, 3), 3);
        Check.due("more than is left", x.cuts(1, 3), FogTailors.STATE);
        Check.due("all that is left", x.cuts(1, 2), 2);
        Check.due("none is left", x.ofDawn(0, 3), 0);
        Check.due("of none", x.cuts(1, 1), FogTailors.STATE);
        FogTailors y = Check.told("d5 0 60;c0 12 0 1;");
        Check.due("all that it has", y.cuts(0, 5), 5);
    }

    private static void cutsWhatHeNeeds() {
        refused("more than he needs", "d40 0 60;c0 5 0 1;", 0, 6);
        FogTailors x = Check.told("d40 0 60;d40 0 60;c0 5 0 1;k9;");
        Check.due("a part", x.cuts(0, 3), 3);
        Check.due("more than he needs, with what he has", x.cuts(0, 3), FogTailors.STATE);
        x.dawn();
        Check.due("what was kept counts", x.cuts(0, 3), FogTailors.STATE);
        Check.due("just what he needs", x.cuts(0, 2), 5);
        Check.due("he has all", x.cuts(0, 1), FogTailors.STATE);
        FogTailors y = Check.told("d40 0 60;c0 5 0 1;");
        Check.due("all at once", y.cuts(0, 5), 5);
        FogTailors z = Check.told("d40 0 60;c0 1 0 1;c0 12 0 1;");
        Check.due("the least", z.cuts(0, 1), 1);
        Check.due("the most", z.cuts(1, 12), 12);
    }

    private static void cutsUntilItLifts() {
        refused("behind when it lifts", "d40 0 5;c0 12 0 1;", 0, 6);
        refused("behind when it lifts at 1", "d40 0 1;c0 12 0 1;", 0, 2);
        FogTailors x = Check.told("d40 0 5;c0 12 0 1;");
        Check.due("just when it lifts", x.cuts(0, 5), 5);
        Check.due("it has lifted", x.cuts(0, 1), FogTailors.STATE);
        FogTailors y = Check.told("d40 0 9;c0 1 0 5;c0 12 0 1;");
        y.cuts(0, 1);
        y.sews(0);
        Check.due("the sewing takes its time, too", y.cuts(1, 4), FogTailors.STATE);
        Check.due("just when it lifts", y.cuts(1, 3), 3);
        FogTailors z = Check.told("d40 0 1;d40 0 60;c0 12 0 1;c0 12 0 1;c0 12 0 1;c0 12 0 1;c0 12 0 1;c0 12 0 1;k30;");
        Check.due("just at 1", z.cuts(0, 1), 1);
        z.dawn();
        Check.due("the next one lifts for itself", z.cuts(0, 11), 12);
        Check.due("minute", z.now(1), 11);
    }

    private static void cutsWhatSuits() {
        for (int fog = 0; fog <= 2; fog++) {
            for (int wanted = 0; wanted <= 3; wanted++) {
                FogTailors x = Check.told("d9 " + fog + " 9;c0 1 " + wanted + " 1;");
                boolean suits = wanted == 3 || wanted == fog;
                Check.due("fog " + fog + " for " + wanted, x.cuts(0, 1), suits ? 1 : FogTailors.STATE);
                Check.due("minute, fog " + fog + " for " + wanted, x.now(1), suits ? 1 : 0);
                Check.due("can, fog " + fog + " for " + wanted, x.can(0, 1), suits ? 1 : 0);
                Check.due("plan, fog " + fog + " for " + wanted, x.plan(0, -1), suits ? 1 : 0);
                Check.due("ways, fog " + fog + " for " + wanted, x.ways(0, 0), suits ? 1 : 0);
            }
        }
        FogTailors x = Check.told("d9 0 9;d9 1 9;c0 1 1 1;");
        Check.due("THE DAWN is not his", x.cuts(0, 1), FogTailors.STATE);
        x.dawn();
        Check.due("THE DAWN is his", x.cuts(0, 1), 1);
    }

    private static FogTailors dressed() {
        FogTailors x = Check.told("d40 0 60;d40 0 60;c0 3 0 1;c0 3 0 1;k30;");
        x.cuts(0, 3);
        x.sews(0);
        return x;
    }

    private static void cutsNoneForTheDressed() {
        Twins.unchanged("cuts for the DRESSED", DoneBoundsTest::dressed, x -> x.cuts(0, 1), FogTailors.STATE);
        Check.due("cuts for the other", dressed().cuts(1, 1), 1);
        FogTailors x = dressed();
        x.dawn();
        Check.due("nor at the next dawn", x.cuts(0, 1), FogTailors.STATE);
    }

    private static void sewsAllHeNeeds() {
        for (int needs = 1; needs <= 12; needs++) {
            FogTailors x = Check.told("d40 0 60;c0 " + needs + " 0 7;");
            for (int n = 0; n < needs; n++) {
                Check.due("has " + n + " of " + needs, x.sews(0), FogTailors.STATE);
                Check.due("not DRESSED", x.client(0, 6), 0);
                x.cuts(0, 1);
            }
            Check.due("has all " + needs, x.sews(0), needs + 7);
            Check.due("DRESSED", x.client(0, 6), 1);
            Check.due("bits", x.now(2), 1);
        }
        String text = "d40 0 60;c0 3 0 1;c0 2 0 1;";
        Twins.unchanged("sews() without yards", () -> cut(text, 0), x -> x.sews(1), FogTailors.STATE);
    }

    private static void sewsUntilTen() {
        Check.due("at TEN", cut("d40 0 60;c0 1 0 9;t10;", 0).sews(0), 10);
        refusedToSew("behind TEN", "d40 0 60;c0 1 0 10;t10;", 0);
        Check.due("ahead of TEN", cut("d40 0 60;c0 1 0 9;t11;", 0).sews(0), 10);
        refusedToSew("behind TEN", "d40 0 60;c0 2 0 10;t11;", 0);
        for (int sewing = 9; sewing <= 10; sewing++) {
            FogTailors x = Check.told("d4 0 60;d4 0 60;c0 1 0 30;c0 1 0 30;c0 1 0 30;c0 1 0 " + sewing + ";t99;k4;");
            for (int c = 0; c < 4; c++) {
                x.cuts(c, 1);
            }
            x.dawn();
            for (int c = 0; c < 3; c++) {
                Check.due("sews(" + c + ")", x.sews(c), 30 * c + 30);
            }
            Check.due("at 99, or behind", x.sews(3), sewing == 9 ? 99 : FogTailors.STATE);
            Check.due("THE MINUTE", x.now(1), sewing == 9 ? 99 : 90);
        }
    }

    private static void sewsUntilTenAsAtFirst() {
        FogTailors x = Check.told("d3 0 60;d3 0 60;c0 1 0 30;c0 1 0 30;c0 1 0 1;k3;");
        for (int c = 0; c < 3; c++) {
            x.cuts(c, 1);
        }
        x.dawn();
        x.sews(0);
        Check.due("at 60", x.sews(1), 60);
        Check.due("behind 60", x.sews(2), FogTailors.STATE);
        Check.due("two are DRESSED", x.now(2), 3);
    }

    private static void sewsWhateverTheFogDoes() {
        FogTailors x = cut("d1 0 1;c0 1 0 30;", 0);
        Check.due("it has lifted", x.sews(0), 31);
        FogTailors y = Check.told("d9 0 9;d9 1 1;c0 2 0 30;k2;");
        y.cuts(0, 2);
        y.dawn();
        Check.due("THE DAWN does not suit him", y.sews(0), 30);
    }

    private static void sewsOnce() {
        Twins.unchanged("sews() the DRESSED", DoneBoundsTest::dressed, x -> x.sews(0), FogTailors.STATE);
    }

    private static void cellarHasJustRoom() {
        for (int room = 0; room <= 12; room++) {
            FogTailors x = Check.told("d40 0 60;c0 12 0 1;k" + room + ";");
            x.cuts(0, 6);
            Check.due("6 yards, room for " + room, x.dawn(), room >= 6 ? 0 : 6);
            Check.due("he has, room for " + room, x.client(0, 4), room >= 6 ? 6 : 0);
        }
        FogTailors y = Check.told("d40 0 60;c0 12 0 1;");
        Check.due("no yards, no CELLAR", y.dawn(), 0);
        FogTailors z = Check.told("d40 0 60;c0 12 0 1;");
        z.cuts(0, 1);
        Check.due("a yard, no CELLAR", z.dawn(), 1);
    }

    private static void kept(int cellar, int gone, int... stay) {
        FogTailors x = Check.told("d40 0 60;d40 0 60;c0 12 0 1;c0 12 0 1;c0 12 0 1;k" + cellar + ";");
        int[] yards = {3, 5, 2};
        for (int c = 0; c < 3; c++) {
            x.cuts(c, yards[c]);
        }
        Check.due("gone, CELLAR " + cellar, x.dawn(), gone);
        for (int c = 0; c < 3; c++) {
            Check.due("client " + c + ", CELLAR " + cellar, x.client(c, 4), stay[c]);
            Check.due("of that DAWN, client " + c + ", CELLAR " + cellar, x.has(c, 0), stay[c]);
        }
        Check.due("what is gone is not left, CELLAR " + cellar, x.ofDawn(0, 3), 30);
    }

    private static void cellarKeepsByNumbers() {
        kept(1, 10, 0, 0, 0);
        kept(2, 8, 0, 0, 2);
        kept(3, 7, 3, 0, 0);
        kept(4, 7, 3, 0, 0);
        kept(5, 5, 3, 0, 2);
        kept(7, 5, 3, 0, 2);
        kept(8, 2, 3, 5, 0);
        kept(9, 2, 3, 5, 0);
        kept(10, 0, 3, 5, 2);
    }

    private static void cellarAtItsEnds() {
        for (int last = 6; last <= 7; last++) {
            FogTailors x = Check.told("d40 0 60;d40 0 60;c0 12 0 1;c0 12 0 1;c0 12 0 1;k30;");
            x.cuts(0, 12);
            x.cuts(1, 12);
            x.cuts(2, last);
            Check.due("30, or 31, in all", x.dawn(), last == 6 ? 0 : 7);
            Check.due("client 2", x.client(2, 4), last == 6 ? 6 : 0);
            Check.due("client 1", x.client(1, 4), 12);
        }
        FogTailors y = Check.told("d40 0 60;d40 0 60;c0 12 0 1;c0 12 0 1;k5;");
        y.cuts(0, 3);
        y.dawn();
        y.cuts(0, 2);
        y.cuts(1, 1);
        Check.due("those kept yesterday take room again", y.dawn(), 1);
        Check.due("all of his two dawns", y.client(0, 4), 5);
        FogTailors z = Check.told("d40 0 60;d40 0 60;c0 12 0 1;k5;");
        z.cuts(0, 5);
        z.dawn();
        z.cuts(0, 1);
        Check.due("one more than there is room: all are gone", z.dawn(), 6);
        Check.due("of the first", z.has(0, 0), 0);
        Check.due("of the second", z.has(0, 1), 0);
    }

    private static void cellarHasNoRoomForTheDressed() {
        FogTailors x = dressed();
        x.cuts(1, 2);
        x.dawn();
        Check.due("the DRESSED one's", x.client(0, 4), 3);
        FogTailors y = Check.told("d40 0 60;c0 3 0 1;c0 3 0 1;k3;");
        y.cuts(0, 3);
        y.cuts(1, 3);
        y.sews(0);
        Check.due("the DRESSED one's take none of it", y.dawn(), 0);
        FogTailors z = Check.told("d40 0 60;c0 3 0 1;c0 3 0 1;");
        z.cuts(0, 3);
        z.sews(0);
        Check.due("the DRESSED one's are not gone", z.dawn(), 0);
        Check.due("he has them", z.client(0, 4), 3);
        FogTailors v = Check.told("d40 0 60;c0 3 0 1;c0 4 0 1;c0 1 0 1;k3;");
        v.cuts(0, 3);
        v.sews(0);
        v.cuts(1, 4);
        v.cuts(2, 1);
        Check.due("nor do they give room", v.dawn(), 4);
        Check.due("there is room for the last", v.client(2, 4), 1);
    }

    private static void dawnsToTheLast() {
        for (int many = 0; many <= 4; many++) {
            FogTailors x = Check.told("d9 0 9;".repeat(many) + "c0 1 0 1;");
            for (int d = 0; d < many; d++) {
                Check.due("THE DAWN", x.now(0), d);
                Check.due("dawn()", x.dawn(), 0);
                Check.due("THE MINUTE", x.now(1), 0);
            }
            Check.due("OVER", x.now(0), many);
            Check.due("dawn() when OVER", x.dawn(), FogTailors.STATE);
            Check.due("OVER still", x.now(0), many);
            Check.due("can be UNDONE", x.now(4), many);
            Check.due("keep() when OVER", x.keep(0), many);
            Check.due("back() when OVER", x.back(0), many);
        }
        FogTailors y = Check.told("d9 0 9;c0 2 0 1;k9;");
        y.cuts(0, 2);
        Check.due("the last one goes by as others do", y.dawn(), 0);
        Check.due("THE MINUTE is 0 when OVER", y.now(1), 0);
        Check.due("kept when OVER", y.client(0, 4), 2);
    }

    private static void over() {
        Twins.unchanged("cuts() when OVER", Stages::over, x -> x.cuts(2, 1), FogTailors.STATE);
        Twins.unchanged("cuts() when OVER, BAD", Stages::over, x -> x.cuts(3, 1), FogTailors.BAD);
        Twins.unchanged("cuts() when OVER, BAD", Stages::over, x -> x.cuts(2, 13), FogTailors.BAD);
        Twins.unchanged("sews() when OVER", Stages::over, x -> x.sews(1), FogTailors.STATE);
        Twins.unchanged("sews() when OVER, BAD", Stages::over, x -> x.sews(3), FogTailors.BAD);
        Twins.unchanged("dawn() when OVER", Stages::over, FogTailors::dawn, FogTailors.STATE);
        FogTailors x = Stages.over();
        Check.due("he has all that he needs", x.client(1, 4), 4);
        Check.due("undo() when OVER", x.undo(), 4);
        Check.due("THE DAWN again", x.now(0), 1);
        Check.due("not OVER", x.sews(1), 6);
        Check.due("with no DAWNS", Check.told("c0 1 3 1;").cuts(0, 1), FogTailors.STATE);
        Check.due("with no DAWNS", Check.told("c0 1 3 1;").sews(0), FogTailors.STATE);
        Check.due("with nothing", new FogTailors().cuts(0, 1), FogTailors.BAD);
        Check.due("with nothing", new FogTailors().sews(0), FogTailors.BAD);
        Check.due("with no CLIENTS", Check.told("d9 0 9;").cuts(0, 1), FogTailors.BAD);
        Check.due("with no CLIENTS", Check.told("d9 0 9;").dawn(), 0);
        Twins.unchanged("dawn() with nothing", Stages::made, FogTailors::dawn, FogTailors.STATE);
    }

    private static void patches() {
        FogTailors x = Check.told("d9 0 9;d9 0 9;d9 0 9;d9 0 9;c0 5 0 1;c0 4 0 1;k9;");
        Check.due("without yards", x.client(0, 5), 0);
        for (int d = 0; d < 4; d++) {
            x.cuts(0, 1);
            x.cuts(1, 1);
            Check.due("of " + (d + 1) + " DAWNS", x.client(0, 5), d);
            Check.due("none is DRESSED", x.now(3), 0);
            if (d < 3) {
                x.dawn();
            }
        }
        x.cuts(0, 1);
        Check.due("two yards of one DAWN", x.client(0, 5), 3);
        x.sews(0);
        Check.due("of one who is DRESSED", x.now(3), 3);
        x.sews(1);
        Check.due("of both", x.now(3), 6);
        FogTailors y = Check.told("d9 0 9;d9 0 9;c0 5 0 1;");
        y.cuts(0, 1);
        y.dawn();
        Check.due("yards are gone", y.client(0, 5), 0);
        y.cuts(0, 1);
        Check.due("of one DAWN", y.client(0, 5), 0);
    }

    private static void undoneOneByOne() {
        Twins.unchanged("undo() of none", Stages::made, FogTailors::undo, FogTailors.STATE);
        Twins.unchanged("undo() of none", () -> Check.told("d9 0 9;c0 1 0 1;"), FogTailors::undo, FogTailors.STATE);
        Twins.unchanged("cuts() UNDONE", Stages::midway, x -> x.cuts(1, 2) + x.undo() * 100, 303 + 100);
        Twins.unchanged("dawn() UNDONE", Stages::midway, x -> x.dawn() + x.undo() * 100, 400);
        Twins.unchanged("sews() UNDONE", () -> ready(), x -> x.sews(1) + x.undo() * 100, 509);
        FogTailors x = Stages.midway();
        for (int left = 3; left >= 0; left--) {
            Check.due("undo()", x.undo(), left);
            Check.due("how many may be", x.now(4), left);
        }
        Check.due("undo() of none", x.undo(), FogTailors.STATE);
        Check.due("THE DAWN", x.now(0), 0);
        Check.due("no yards", x.client(0, 4), 0);
    }

    private static FogTailors ready() {
        FogTailors x = Stages.midway();
        x.cuts(1, 3);
        return x;
    }

    private static FogTailors cutOneByOne(int times) {
        FogTailors x = Check.told("d40 0 60;c0 12 0 1;");
        for (int i = 0; i < times; i++) {
            x.cuts(0, 1);
        }
        return x;
    }

    private static void undoneTen() {
        for (int times = 0; times <= 12; times++) {
            FogTailors x = cutOneByOne(times);
            int known = Math.min(times, 10);
            Check.due("known of " + times, x.now(4), known);
            for (int left = known - 1; left >= 0; left--) {
                Check.due("undo()", x.undo(), left);
            }
            Check.due("the oldest of " + times + " are lost", x.client(0, 4), times - known);
            Check.due("none is known", x.undo(), FogTailors.STATE);
            Check.due("no more than that is UNDONE", x.now(1), times - known);
        }
    }

    private static void undoneAround() {
        FogTailors x = cutOneByOne(7);
        for (int i = 0; i < 5; i++) {
            x.undo();
        }
        Check.due("two are left", x.now(4), 2);
        for (int i = 0; i < 9; i++) {
            x.cuts(0, 1);
        }
        Check.due("ten again", x.now(4), 10);
        Check.due("yards", x.client(0, 4), 11);
        for (int left = 9; left >= 0; left--) {
            Check.due("undo()", x.undo(), left);
            Check.due("yards", x.client(0, 4), left + 1);
        }
        Check.due("none is known", x.undo(), FogTailors.STATE);
        FogTailors y = Check.told("d9 0 9;c0 1 0 1;");
        for (int i = 0; i < 60; i++) {
            Check.due("cuts()", y.cuts(0, 1), 1);
            Check.due("sews()", y.sews(0), 2);
            Check.due("dawn()", y.dawn(), 0);
            Check.due("undo()", y.undo(), 2);
            Check.due("undo()", y.undo(), 1);
            Check.due("undo()", y.undo(), 0);
        }
    }

    private static int yards(FogTailors x) {
        int sum = 0;
        for (int i = 0; i < 24; i++) {
            sum += x.has(i / 4, i % 4) * (i + 1);
        }
        return sum;
    }

    /** Each CLIENT has a yard of each DAWN, and all are gone by the last dawn(). */
    private static void undoneOfAllYards() {
        FogTailors x = Check.told("d9 0 9;d9 0 9;d9 0 9;d9 0 9;c0 6 0 1;c0 6 0 1;c0 6 0 1;c0 6 0 1;c0 6 0 1;c0 6 0 1;k23;");
        for (int i = 0; i < 24; i++) {
            x.cuts(i % 6, 1);
            if (i % 6 == 5 && i < 23) {
                Check.due("all are kept", x.dawn(), 0);
            }
        }
        Check.due("yards", yards(x), 300);
        x.keep(0);
        Check.due("no room for the last one's", x.dawn(), 4);
        Check.due("yards of the others", yards(x), 210);
        x.undo();
        Check.due("yards, UNDONE", yards(x), 300);
        Check.due("left", x.ofDawn(3, 3), 3);
        x.dawn();
        x.back(0);
        Check.due("yards of the IMAGE", yards(x), 300);
    }

    private static void undoneNotWhatWasRefused() {
        FogTailors x = cutOneByOne(10);
        x.cuts(0, 12);
        x.cuts(0, 13);
        x.sews(0);
        x.sews(1);
        Check.due("ten are known", x.now(4), 10);
        for (int i = 0; i < 10; i++) {
            x.undo();
        }
        Check.due("all ten are UNDONE", x.client(0, 4), 0);
        FogTailors y = cutOneByOne(1);
        y.round(1, 0);
        y.plan(0, 0);
        y.rate(1, 0);
        y.found(1, 1);
        y.keep(0);
        y.type('x');
        y.marsh();
        y.clear();
        y.forget();
        Check.due("other calls are not UNDONE", y.now(4), 1);
        Check.due("undo()", y.undo(), 0);
        Check.due("yards", y.client(0, 4), 0);
        Check.due("THE TRACE goes on", y.trace(), 11);
        Check.due("the IMAGE is there", y.back(0), 0);
        Check.due("yards of the IMAGE", y.client(0, 4), 1);
    }

    private static void undoneBehindMarsh() {
        FogTailors x = cutOneByOne(3);
        Check.type(x, "x");
        x.marsh();
        Check.due("a FAULT: as many as ahead", x.now(4), 3);
        x.clear();
        x.marsh();
        Check.due("read anew: none", x.now(4), 0);
        Check.due("undo()", x.undo(), FogTailors.STATE);
    }
}
