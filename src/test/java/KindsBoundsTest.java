/** The boundaries of RATE, THE TRACE and IMAGES: each KIND, refused ones, what is kept, none kept, kept over, 512 calls. */
final class KindsBoundsTest {
    public static void main(String[] args) {
        rateAtItsEnds();
        rateWhenDressed();
        rateNone();
        traceOfEach();
        traceGoesOn();
        backOfNone();
        backOfEach();
        keepOver();
        keepsNothingElse();
        nothingUndoneBehindBack();
        imagesAreGone();
        imagesStayBehindAFault();
        theLastCall();
        Check.end("KindsBoundsTest");
    }

    private static void rates(FogTailors x, int c, int... due) {
        for (int kind = 0; kind < 6; kind++) {
            Check.due("rate(" + kind + ", " + c + ")", x.rate(kind, c), due[kind]);
        }
        Check.due("rate(6, " + c + ")", x.rate(6, c), FogTailors.NO);
        Check.due("rate(-1, " + c + ")", x.rate(-1, c), FogTailors.NO);
    }

    private static void rateAtItsEnds() {
        rates(Check.told("c5 1 0 30;"), 0, 1, 1, -29, 2, -29, 1);
        rates(Check.told("c5 12 0 1;"), 0, 12, 12, 11, 24, 11, 12);
        FogTailors x = Check.told("d40 0 60;c0 1 0 1;c0 1 0 1;c0 1 0 1;c0 1 0 1;c0 1 0 1;c0 12 0 30;");
        rates(x, 5, 12, 12, -18, 24, -13, 12);
        x.cuts(5, 12);
        rates(x, 5, 12, 24, -18, 48, -13, 24);
        x.sews(5);
        rates(x, 5, 12, 24, -18, 48, -13, 54);
        x.dawn();
        rates(x, 5, 12, 24, -18, 48, -13, 12);
        rates(x, 0, 1, 1, 0, 2, 0, 1);
        Check.due("rate(0, 6)", x.rate(0, 6), FogTailors.NO);
    }

    private static void rateWhenDressed() {
        FogTailors x = Check.told("d9 0 9;d9 0 9;c3 2 0 3;k2;");
        x.cuts(0, 1);
        x.dawn();
        x.cuts(0, 1);
        rates(x, 0, 2, 4, -1, 8, -1, 3);
        x.sews(0);
        rates(x, 0, 2, 4, -1, 8, -1, 6);
        x.undo();
        rates(x, 0, 2, 4, -1, 8, -1, 3);
    }

    private static void rateNone() {
        for (int kind = 0; kind < 6; kind++) {
            int k = kind;
            Twins.unchanged("rate(" + k + ", 0) with no CLIENTS", Stages::made, x -> x.rate(k, 0), FogTailors.NO);
            Twins.unchanged("rate(" + k + ", 2) of 2", Stages::midway, x -> x.rate(k, 2), FogTailors.NO);
            Twins.unchanged("rate(" + k + ", -1)", Stages::midway, x -> x.rate(k, -1), FogTailors.NO);
        }
        Twins.unchanged("rate(6, 0)", Stages::midway, x -> x.rate(6, 0), FogTailors.NO);
        Twins.unchanged("rate(-1, 0)", Stages::midway, x -> x.rate(-1, 0), FogTailors.NO);
    }

    private static void traceOfEach() {
        long[] due = {1, 11, 101, 1011, 10101, 100001};
        for (int kind = 0; kind < 6; kind++) {
            FogTailors x = Check.told("d9 0 9;c5 2 0 3;c0 2 0 3;");
            Check.due("at first", x.trace(), 0);
            x.rate(kind, 0);
            Check.due("by KIND " + kind, x.trace(), due[kind]);
            x.rate(kind, 1);
            Check.due("by KIND " + kind + " again", x.trace(), 2 * due[kind]);
            x.rate(kind, 2);
            Check.due("not by a refused one", x.trace(), 2 * due[kind]);
        }
        FogTailors y = Check.told("c0 1 0 1;");
        for (int i = 1; i <= 400; i++) {
            y.rate(5, 0);
        }
        Check.due("400 times", y.trace(), 40000400);
    }

    private static void traceGoesOn() {
        FogTailors x = Stages.midway();
        x.rate(3, 1);
        x.undo();
        Check.due("behind undo()", x.trace(), 1012);
        x.back(1);
        Check.due("behind back()", x.trace(), 1012);
        x.marsh();
        Check.due("behind a FAULT", x.trace(), 1012);
        x.clear();
        x.marsh();
        Check.due("read anew", x.trace(), 1012);
        x.rate(0, 0);
        Check.due("there is none", x.trace(), 1012);
    }

    private static void backOfNone() {
        for (int i = 0; i < 2; i++) {
            int image = i;
            Twins.unchanged("back(" + i + ") of none", Stages::made, x -> x.back(image), FogTailors.STATE);
        }
        Twins.unchanged("back(0), 1 is kept alone", Stages::midway, x -> x.back(0), FogTailors.STATE);
        Twins.unchanged("back(1), 0 is kept alone", Stages::over, x -> x.back(1), FogTailors.STATE);
        Twins.unchanged("back(2)", Stages::midway, x -> x.back(2), FogTailors.BAD);
        Twins.unchanged("back(-1)", Stages::midway, x -> x.back(-1), FogTailors.BAD);
        Twins.unchanged("keep(2)", Stages::midway, x -> x.keep(2), FogTailors.BAD);
        Twins.unchanged("keep(-1)", Stages::midway, x -> x.keep(-1), FogTailors.BAD);
        FogTailors x = new FogTailors();
        Check.due("keep(0) with nothing", x.keep(0), 0);
        Check.due("back(0)", x.back(0), 0);
        Check.due("keep(1) with nothing", x.keep(1), 0);
        Check.due("back(1)", x.back(1), 0);
    }

    private static void stands(FogTailors x, int dawn, int minute, int dressed, int leftOfFirst, int leftOfSecond) {
        Check.due("THE DAWN", x.now(0), dawn);
        Check.due("THE MINUTE", x.now(1), minute);
        Check.due("DRESSED", x.now(2), dressed);
        Check.due("nothing can be UNDONE", x.now(4), 0);
        Check.due("left of the first", x.ofDawn(0, 3), leftOfFirst);
        Check.due("left of the second", x.ofDawn(1, 3), leftOfSecond);
    }

    private static void backOfEach() {
        FogTailors x = Stages.midway();
        Check.due("keep(0)", x.keep(0), 1);
        x.cuts(1, 2);
        x.dawn();
        Check.due("back(1)", x.back(1), 0);
        stands(x, 0, 3, 0, 6, 8);
        Check.due("yards", x.has(0, 0), 3);
        Check.due("yards", x.client(1, 4), 0);
        Check.due("back(0)", x.back(0), 1);
        stands(x, 1, 0, 1, 5, 8);
        Check.due("yards", x.has(1, 0), 1);
        Check.due("yards", x.has(1, 1), 0);
        Check.due("back(0) again", x.back(0), 1);
        stands(x, 1, 0, 1, 5, 8);
        Check.due("back(1) again", x.back(1), 0);
        stands(x, 0, 3, 0, 6, 8);
        Check.due("goes on from there", x.sews(0), 7);
    }

    private static void keepOver() {
        FogTailors x = Stages.midway();
        Check.due("keep(1) over the first", x.keep(1), 1);
        x.dawn();
        Check.due("back(1)", x.back(1), 1);
        stands(x, 1, 0, 1, 5, 8);
        Check.due("the other one was never kept", x.back(0), FogTailors.STATE);
        x.cuts(1, 1);
        Check.due("an IMAGE does not go on with NOW", x.back(1), 1);
        stands(x, 1, 0, 1, 5, 8);
    }

    private static void keepsNothingElse() {
        FogTailors x = Stages.midway();
        x.keep(0);
        Check.due("keep() can't be UNDONE, and takes nothing from what can", x.now(4), 4);
        x.found(16, 0);
        Check.type(x, "7");
        x.rate(0, 0);
        x.back(0);
        Check.due("FOUND", x.count(4), 3);
        Check.due("letters", x.count(5), 4);
        Check.due("THE TRACE", x.trace(), 2);
        Check.due("from()", x.from(), 0);
        x.clear();
        x.forget();
        x.back(1);
        Check.due("FOUND", x.count(4), 0);
        Check.due("letters", x.count(5), 0);
        Check.due("TEN", x.count(2), 50);
        Check.due("CELLAR", x.count(3), 9);
    }

    private static void nothingUndoneBehindBack() {
        FogTailors x = Stages.full();
        Check.due("ten", x.now(4), 10);
        x.back(1);
        Check.due("none", x.now(4), 0);
        Check.due("undo()", x.undo(), FogTailors.STATE);
        Check.due("cuts()", x.cuts(2, 1), 1);
        Check.due("undo() of what is done behind", x.undo(), 0);
        Check.due("undo()", x.undo(), FogTailors.STATE);
        Check.due("THE MINUTE", x.now(1), 11);
        x.back(0);
        Check.due("THE MINUTE", x.now(1), 0);
        for (int i = 0; i < 11; i++) {
            x.cuts(i % 2, 1);
        }
        Check.due("ten again", x.now(4), 10);
        x.back(2);
        Check.due("ten, back() was refused", x.now(4), 10);
    }

    private static void imagesAreGone() {
        FogTailors x = Stages.full();
        x.clear();
        Check.type(x, "d9 0 9;c0 1 0 1;");
        x.marsh();
        Check.due("back(0)", x.back(0), FogTailors.STATE);
        Check.due("back(1)", x.back(1), FogTailors.STATE);
        Check.due("keep(1)", x.keep(1), 0);
        Check.due("back(1)", x.back(1), 0);
        Check.due("back(0)", x.back(0), FogTailors.STATE);
    }

    private static void imagesStayBehindAFault() {
        FogTailors x = Stages.midway();
        x.keep(0);
        x.marsh();
        Check.due("back(0)", x.back(0), 1);
        Check.due("back(1)", x.back(1), 0);
    }

    private static void theLastCall() {
        FogTailors x = Check.told("d40 0 60;c0 12 0 1;");
        int calls = 20;
        while (calls < 510) {
            Check.due("cuts()", x.cuts(0, 1), 1);
            Check.due("undo()", x.undo(), 0);
            calls += 2;
        }
        Check.due("the 511th", x.cuts(0, 12), 12);
        Check.due("the 512th", x.sews(0), 13);
    }
}
