/** Promises 22 to 24 and 26: rate, keep, back, trace. */
final class KindsTest {
    public static void main(String[] args) {
        rate();
        rateRefused();
        keepAndBack();
        backLeavesTheRest();
        imagesRefused();
        trace();
        Check.end("KindsTest");
    }

    private static void rate() {
        FogTailors x = Check.told("d9 1 60;c0 3 1 4;c4 5 1 7;");
        x.cuts(1, 2);
        int[] first = {3, 3, 3 - 4, 6, 3 - 4, 5};
        int[] second = {5, 7, 5 - 7, 14, 5 - 7 + 1, 7};
        for (int kind = 0; kind < 6; kind++) {
            Check.due("rate(" + kind + ", 0)", x.rate(kind, 0), first[kind]);
            Check.due("rate(" + kind + ", 1)", x.rate(kind, 1), second[kind]);
        }
    }

    private static void rateRefused() {
        FogTailors x = Check.told("d9 1 60;c0 3 1 4;");
        Check.due("rate(6, 0)", x.rate(6, 0), FogTailors.NO);
        Check.due("rate(-1, 0)", x.rate(-1, 0), FogTailors.NO);
        Check.due("rate(0, 1)", x.rate(0, 1), FogTailors.NO);
        Check.due("rate(0, -1)", x.rate(0, -1), FogTailors.NO);
        Check.due("refused, no trace", x.trace(), 0);
    }

    private static void keepAndBack() {
        FogTailors x = Check.told("d20 1 20;d5 0 9;c0 3 1 4;c0 2 3 9;k1;");
        Check.due("keep(0)", x.keep(0), 0);
        x.cuts(0, 3);
        x.sews(0);
        x.cuts(1, 1);
        x.dawn();
        x.cuts(1, 1);
        Check.due("keep(1)", x.keep(1), 1);
        x.dawn();
        Check.due("back(0)", x.back(0), 0);
        Check.due("minute", x.now(1), 0);
        Check.due("dressed", x.now(2), 0);
        Check.due("left", x.ofDawn(0, 3), 20);
        Check.due("yards", x.client(0, 4), 0);
        Check.due("back(1)", x.back(1), 1);
        Check.due("minute", x.now(1), 1);
        Check.due("dressed", x.now(2), 1);
        Check.due("left", x.ofDawn(0, 3) * 10 + x.ofDawn(1, 3), 164);
        Check.due("yards", x.has(1, 0) * 10 + x.has(1, 1), 11);
        Check.due("back(0) once more", x.back(0), 0);
        x.cuts(0, 1);
        Check.due("kept over", x.keep(0), 0);
        x.dawn();
        x.back(0);
        Check.due("as kept the last time", x.client(0, 4), 1);
    }

    private static void backLeavesTheRest() {
        FogTailors x = Check.told("d20 1 20;c0 3 1 4;");
        x.keep(1);
        x.cuts(0, 1);
        x.found(3, 1);
        x.rate(0, 0);
        x.type('z');
        Check.due("keep() leaves what can be undone", x.now(4), 1);
        x.keep(0);
        Check.due("keep() leaves what can be undone", x.now(4), 1);
        x.back(1);
        Check.due("nothing can be undone", x.now(4), 0);
        Check.due("undo()", x.undo(), FogTailors.STATE);
        Check.due("found stays", x.count(4), 1);
        Check.due("the text stays", x.count(5), 1);
        Check.due("the trace goes on", x.trace(), 1);
        x.cuts(0, 2);
        Check.due("what is done behind can be", x.undo(), 0);
        Check.due("an image is there still", x.back(0), 0);
        Check.due("yards", x.client(0, 4), 1);
    }

    private static void imagesRefused() {
        FogTailors x = Check.told("d20 1 20;c0 3 1 4;");
        Check.due("keep(2)", x.keep(2), FogTailors.BAD);
        Check.due("keep(-1)", x.keep(-1), FogTailors.BAD);
        Check.due("back(2)", x.back(2), FogTailors.BAD);
        Check.due("back(-1)", x.back(-1), FogTailors.BAD);
        x.cuts(0, 1);
        Check.due("back(0)", x.back(0), FogTailors.STATE);
        Check.due("refused, it can be undone", x.now(4), 1);
        x.keep(1);
        Check.due("back(0) with the other kept", x.back(0), FogTailors.STATE);
    }

    private static void trace() {
        FogTailors x = Check.told("d20 1 20;c0 3 1 4;");
        long[] due = {1, 11, 101, 1011, 10101, 100001};
        long sum = 0;
        for (int kind = 0; kind < 6; kind++) {
            x.rate(kind, 0);
            sum += due[kind];
            Check.due("trace() behind rate(" + kind + ", 0)", x.trace(), sum);
        }
        x.keep(0);
        x.cuts(0, 1);
        x.undo();
        x.back(0);
        x.marsh();
        Check.due("trace() goes on", x.trace(), sum);
    }
}
