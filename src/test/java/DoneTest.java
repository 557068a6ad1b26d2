/** Promises 9 to 12: cuts, sews, dawn, undo. */
final class DoneTest {
    public static void main(String[] args) {
        cuts();
        cutsRefused();
        sews();
        sewsRefused();
        dawn();
        cellarIsFilledByNumbers();
        undo();
        undoKnowsTen();
        Check.end("DoneTest");
    }

    private static void cuts() {
        FogTailors x = Check.told("d20 1 12;c0 12 1 4;c0 12 3 4;c0 1 3 4;");
        Check.due("cuts(0, 5)", x.cuts(0, 5), 5);
        Check.due("cuts(0, 2)", x.cuts(0, 2), 7);
        Check.due("cuts(1, 4)", x.cuts(1, 4), 4);
        Check.due("minute", x.now(1), 11);
        Check.due("beyond when it lifts", x.cuts(1, 2), FogTailors.STATE);
        Check.due("just when it lifts", x.cuts(1, 1), 5);
        Check.due("it has lifted", x.cuts(2, 1), FogTailors.STATE);
        Check.due("left", x.ofDawn(0, 3), 8);
        FogTailors y = Check.told("d12 0 12;c0 12 0 1;");
        Check.due("all of it at once", y.cuts(0, 12), 12);
        Check.due("none is left", y.ofDawn(0, 3), 0);
    }

    private static void cutsRefused() {
        FogTailors x = Check.told("d5 1 60;d3 2 60;c0 4 1 4;c0 12 3 4;c0 2 0 4;k9;");
        Check.due("cuts(3, 1)", x.cuts(3, 1), FogTailors.BAD);
        Check.due("cuts(-1, 1)", x.cuts(-1, 1), FogTailors.BAD);
        Check.due("cuts(0, 0)", x.cuts(0, 0), FogTailors.BAD);
        Check.due("cuts(0, -1)", x.cuts(0, -1), FogTailors.BAD);
        Check.due("cuts(0, 13)", x.cuts(0, 13), FogTailors.BAD);
        Check.due("cuts(2, 13), BAD ahead of STATE", x.cuts(2, 13), FogTailors.BAD);
        Check.due("a fog that does not suit", x.cuts(2, 1), FogTailors.STATE);
        Check.due("more than he needs", x.cuts(0, 5), FogTailors.STATE);
        Check.due("more than is left", x.cuts(1, 6), FogTailors.STATE);
        Check.due("refused, no minute", x.now(1), 0);
        Check.due("refused, none to be undone", x.now(4), 0);
        x.cuts(0, 4);
        x.sews(0);
        Check.due("dressed", x.cuts(0, 1), FogTailors.STATE);
        Check.due("more than is left now", x.cuts(1, 2), FogTailors.STATE);
        Check.due("what is left", x.cuts(1, 1), 1);
        x.dawn();
        x.dawn();
        Check.due("over", x.cuts(1, 1), FogTailors.STATE);
        Check.due("over, but BAD", x.cuts(1, 0), FogTailors.BAD);
    }

    private static void sews() {
        FogTailors x = Check.told("d20 1 20;c0 3 1 4;c0 2 3 9;c0 1 3 2;t20;");
        x.cuts(0, 3);
        Check.due("sews(0)", x.sews(0), 7);
        x.cuts(1, 2);
        Check.due("sews(1)", x.sews(1), 18);
        x.cuts(2, 1);
        Check.due("beyond ten", x.sews(2), FogTailors.STATE);
        Check.due("dressed", x.now(2), 3);
        FogTailors y = Check.told("d20 1 20;c0 3 1 7;t10;");
        y.cuts(0, 3);
        Check.due("just at ten", y.sews(0), 10);
        FogTailors z = Check.told("d20 1 2;d9 0 1;c0 2 1 7;k9;");
        z.cuts(0, 2);
        z.dawn();
        Check.due("kept, of a fog of yesterday, behind when it lifts", z.sews(0), 7);
    }

    private static void sewsRefused() {
        FogTailors x = Check.told("d20 1 20;c0 3 1 4;c0 2 3 9;k9;");
        Check.due("sews(2)", x.sews(2), FogTailors.BAD);
        Check.due("sews(-1)", x.sews(-1), FogTailors.BAD);
        Check.due("no yards", x.sews(0), FogTailors.STATE);
        x.cuts(0, 2);
        Check.due("too few yards", x.sews(0), FogTailors.STATE);
        x.cuts(0, 1);
        Check.due("sews(0)", x.sews(0), 7);
        Check.due("dressed already", x.sews(0), FogTailors.STATE);
        x.cuts(1, 2);
        x.dawn();
        Check.due("over", x.sews(1), FogTailors.STATE);
        Check.due("over, all kept", x.client(1, 4), 2);
    }

    private static void dawn() {
        FogTailors x = Check.told("d20 1 20;d5 0 9;c0 3 1 4;c0 2 3 9;");
        x.cuts(0, 3);
        x.sews(0);
        x.cuts(1, 2);
        Check.due("no cellar: gone", x.dawn(), 2);
        Check.due("gone", x.client(1, 4), 0);
        Check.due("the dressed one's stay", x.client(0, 4), 3);
        Check.due("still dressed", x.now(2), 1);
        Check.due("the next", x.now(0), 1);
        Check.due("minute", x.now(1), 0);
        Check.due("nothing to be gone", x.dawn(), 0);
        Check.due("over", x.now(0), 2);
        Check.due("dawn() when over", x.dawn(), FogTailors.STATE);
        Check.due("still over", x.now(0), 2);
        Check.due("refused is not undone", x.now(4), 5);
    }

    private static void cellarIsFilledByNumbers() {
        String text = "d40 0 60;d40 0 60;c0 3 0 1;c0 5 0 1;c0 2 0 1;c0 1 0 1;k6;";
        FogTailors x = Check.told(text);
        int[] yards = {3, 5, 2, 1};
        for (int c = 0; c < yards.length; c++) {
            x.cuts(c, yards[c]);
        }
        Check.due("5 do not fit beside 3, 2 and 1 do", x.dawn(), 5);
        int[] stay = {3, 0, 2, 1};
        for (int c = 0; c < stay.length; c++) {
            Check.due("client(" + c + ", 4)", x.client(c, 4), stay[c]);
        }
        x.sews(0);
        x.cuts(1, 3);
        Check.due("the dressed one's take no room", x.dawn(), 0);
        Check.due("client(1, 4)", x.client(1, 4), 3);
        FogTailors y = Check.told(text);
        y.cuts(0, 1);
        y.dawn();
        y.cuts(0, 2);
        y.cuts(1, 4);
        y.cuts(2, 2);
        Check.due("what is kept of two dawns counts", y.dawn(), 4);
        Check.due("all of it is kept", y.has(0, 0) * 10 + y.has(0, 1), 12);
        Check.due("client(2, 4)", y.client(2, 4), 2);
    }

    private static void undo() {
        FogTailors x = Check.told("d20 1 20;d5 0 9;c0 3 1 4;c0 2 3 9;");
        x.cuts(0, 3);
        x.sews(0);
        x.cuts(1, 2);
        x.cuts(1, 1);
        x.rate(0, 0);
        x.dawn();
        Check.due("undo() of the dawn", x.undo(), 3);
        Check.due("dawn", x.now(0), 0);
        Check.due("minute", x.now(1), 9);
        Check.due("yards", x.client(1, 4), 2);
        Check.due("undo() of the cut", x.undo(), 2);
        Check.due("minute", x.now(1), 7);
        Check.due("left", x.ofDawn(0, 3), 17);
        Check.due("undo() of the sewing", x.undo(), 1);
        Check.due("not dressed", x.client(0, 6), 0);
        Check.due("minute", x.now(1), 3);
        Check.due("undo() of the first", x.undo(), 0);
        Check.due("left", x.ofDawn(0, 3), 20);
        Check.due("yards", x.client(0, 4), 0);
        Check.due("none", x.undo(), FogTailors.STATE);
        Check.due("the trace goes on", x.trace(), 1);
        Check.due("cut anew", x.cuts(0, 1), 1);
    }

    private static void undoKnowsTen() {
        FogTailors x = Check.told("d40 1 60;c0 12 1 4;c0 12 1 4;");
        for (int i = 1; i <= 12; i++) {
            x.cuts(0, 1);
            Check.due("known", x.now(4), Math.min(i, 10));
        }
        for (int i = 9; i >= 0; i--) {
            Check.due("undo()", x.undo(), i);
            Check.due("yards", x.client(0, 4), i + 2);
        }
        Check.due("the first two are lost", x.undo(), FogTailors.STATE);
        Check.due("yards", x.client(0, 4), 2);
        x.cuts(1, 1);
        Check.due("one more", x.now(4), 1);
        Check.due("undo()", x.undo(), 0);
    }
}
