/** The boundaries of what was FOUND, of FROM and of LOOK: minutes 1 and 60, six pieces, none and one that can be. */
final class PiecesBoundsTest {
    private static final int NONE = FogTailors.NONE;

    public static void main(String[] args) {
        foundAtItsEnds();
        foundSix();
        foundWithNoDawns();
        foundIsKept();
        foundIsGone();
        forgetNone();
        fromNothingFound();
        fromAroundWhenItLifts();
        fromAllThatWasFound();
        lookOfNoneAndOne();
        lookOfTwo();
        lookOfMore();
        lookAsNow();
        Check.end("PiecesBoundsTest");
    }

    private static void foundAtItsEnds() {
        for (int m = 0; m <= 61; m++) {
            for (int is = -1; is <= 2; is++) {
                int minute = m;
                int found = is;
                if (m < 1 || m > 60 || is < 0 || is > 1) {
                    Twins.unchanged("found(" + m + ", " + is + ")", Stages::midway, x -> x.found(minute, found), FogTailors.BAD);
                } else {
                    FogTailors x = Stages.midway();
                    Check.due("found(" + m + ", " + is + ")", x.found(m, is), 3);
                    Check.due("count(4)", x.count(4), 3);
                }
            }
        }
    }

    private static FogTailors six() {
        FogTailors x = Check.told("d9 0 10;d9 0 20;");
        for (int n = 1; n <= 6; n++) {
            Check.due("how much there is", x.found(10 + n, 1), n);
            Check.due("count(4)", x.count(4), n);
        }
        return x;
    }

    private static void foundSix() {
        Twins.unchanged("a seventh", PiecesBoundsTest::six, x -> x.found(20, 1), FogTailors.FULL);
        Twins.unchanged("a seventh that would change FROM", PiecesBoundsTest::six, x -> x.found(60, 1), FogTailors.FULL);
        Twins.unchanged("a seventh, alike", PiecesBoundsTest::six, x -> x.found(11, 1), FogTailors.FULL);
        Twins.unchanged("a seventh, BAD", PiecesBoundsTest::six, x -> x.found(61, 1), FogTailors.BAD);
        Twins.unchanged("a seventh, BAD", PiecesBoundsTest::six, x -> x.found(0, 0), FogTailors.BAD);
        Twins.unchanged("a seventh, BAD", PiecesBoundsTest::six, x -> x.found(20, 2), FogTailors.BAD);
        FogTailors x = six();
        Check.due("from()", x.from(), 2);
        Check.due("forget()", x.forget(), 6);
        Check.due("room again", x.found(1, 1), 1);
        FogTailors y = Check.told("d9 0 10;d9 0 20;");
        for (int n = 1; n <= 6; n++) {
            y.found(1, 1);
        }
        Check.due("the sixth of them counts, too", y.from(), 3);
        y.forget();
        for (int n = 1; n <= 5; n++) {
            y.found(1, 1);
        }
        y.found(20, 1);
        Check.due("the sixth of them counts, too", y.from(), 2);
    }

    private static void foundWithNoDawns() {
        FogTailors x = new FogTailors();
        Check.due("found()", x.found(1, 1), 1);
        Check.due("found()", x.found(60, 0), 2);
        Check.due("from()", x.from(), 0);
        Check.due("look()", x.look(), NONE);
        Check.due("forget()", x.forget(), 2);
        Check.due("from()", x.from(), 0);
    }

    private static void foundIsKept() {
        FogTailors x = Stages.midway();
        x.dawn();
        x.undo();
        x.back(1);
        Check.type(x, "x");
        x.marsh();
        Check.due("behind dawn(), undo(), back(), a FAULT", x.count(4), 2);
        Check.due("from()", x.from(), 3);
        x.found(21, 1);
        x.back(1);
        Check.due("it is of no IMAGE", x.count(4), 3);
        Check.due("from()", x.from(), 2);
    }

    private static void foundIsGone() {
        FogTailors x = six();
        Check.type(x, "d9 0 10;");
        x.marsh();
        Check.due("read anew", x.count(4), 0);
        Check.due("from()", x.from(), 1);
        Check.due("room again", x.found(11, 1), 1);
        Check.due("from()", x.from(), 0);
    }

    private static void forgetNone() {
        Twins.unchanged("forget() of none", Stages::made, FogTailors::forget, 0);
        Twins.unchanged("forget() of none", Stages::over, FogTailors::forget, 0);
        FogTailors x = Stages.midway();
        Check.due("forget()", x.forget(), 2);
        Check.due("forget() again", x.forget(), 0);
        Check.due("count(4)", x.count(4), 0);
        Check.due("nothing else is forgotten", x.now(4), 4);
    }

    private static void fromNothingFound() {
        for (int many = 0; many <= 4; many++) {
            Check.due("of " + many, Check.told("d9 0 1;".repeat(many)).from(), (1 << many) - 1);
        }
    }

    private static void fromAroundWhenItLifts() {
        for (int lifts = 1; lifts <= 60; lifts += lifts == 1 || lifts == 59 ? 1 : 3) {
            for (int m = 1; m <= 60; m++) {
                FogTailors x = Check.told("d9 0 " + lifts + ";");
                x.found(m, 1);
                Check.due("lifts " + lifts + ", cut at " + m, x.from(), m <= lifts ? 1 : 0);
                x.forget();
                x.found(m, 0);
                Check.due("lifts " + lifts + ", not at " + m, x.from(), m <= lifts ? 0 : 1);
            }
        }
    }

    private static void fromAllThatWasFound() {
        FogTailors x = Check.told("d9 0 10;d9 1 11;d9 2 20;d9 0 21;");
        x.found(11, 1);
        Check.due("lifts at 11, or later", x.from(), 14);
        x.found(21, 0);
        Check.due("and ahead of 21", x.from(), 6);
        x.found(12, 0);
        Check.due("and ahead of 12", x.from(), 2);
        x.found(11, 0);
        Check.due("both at once can't be", x.from(), 0);
        Check.due("look()", x.look(), NONE);
    }

    private static void lookOfNoneAndOne() {
        Check.due("no DAWNS", new FogTailors().look(), NONE);
        Check.due("one DAWN", Check.told("d9 0 30;").look(), NONE);
        FogTailors x = Check.told("d9 0 10;d9 0 20;");
        Check.due("two", x.look(), 11);
        x.found(11, 1);
        Check.due("one of two", x.look(), NONE);
        x.found(11, 0);
        Check.due("none of two", x.look(), NONE);
    }

    private static void lookOfTwo() {
        Check.due("1 and 2", Check.told("d9 0 1;d9 0 2;").look(), 2);
        Check.due("2 and 1", Check.told("d9 0 2;d9 0 1;").look(), 2);
        Check.due("59 and 60", Check.told("d9 0 59;d9 0 60;").look(), 60);
        Check.due("1 and 60", Check.told("d9 0 1;d9 0 60;").look(), 2);
        Check.due("alike at 1", Check.told("d9 0 1;d9 0 1;").look(), 1);
        Check.due("alike at 60", Check.told("d9 0 60;d9 0 60;").look(), 1);
    }

    private static void lookOfMore() {
        Check.due("1 and 2", Check.told("d9 0 10;d9 0 20;d9 0 30;").look(), 11);
        Check.due("2 and 1", Check.told("d9 0 10;d9 0 10;d9 0 30;").look(), 11);
        Check.due("three alike", Check.told("d9 0 10;d9 0 10;d9 0 10;").look(), 1);
        Check.due("2 and 2", Check.told("d9 0 40;d9 0 30;d9 0 20;d9 0 10;").look(), 21);
        Check.due("3 and 1", Check.told("d9 0 40;d9 0 10;d9 0 10;d9 0 10;").look(), 11);
        Check.due("1 and 3", Check.told("d9 0 40;d9 0 40;d9 0 40;d9 0 10;").look(), 11);
        Check.due("2 and 2, not the lowest that parts", Check.told("d9 0 1;d9 0 59;d9 0 60;d9 0 60;").look(), 60);
        Check.due("four alike", Check.told("d9 0 7;d9 0 7;d9 0 7;d9 0 7;").look(), 1);
    }

    private static void lookAsNow() {
        FogTailors x = Check.told("d9 0 10;d9 0 20;d9 0 30;d9 0 40;");
        Twins.unchanged("look()", Stages::full, FogTailors::look, NONE);
        Twins.unchanged("from()", Stages::full, FogTailors::from, 1);
        x.found(40, 0);
        Check.due("10, 20, 30", x.look(), 11);
        x.found(11, 1);
        Check.due("20, 30", x.look(), 21);
        x.dawn();
        x.dawn();
        x.dawn();
        x.dawn();
        Check.due("OVER, the same", x.look(), 21);
    }
}
