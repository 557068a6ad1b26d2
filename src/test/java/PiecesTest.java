/** Promises 18 to 21: found, forget, from, look. */
final class PiecesTest {
    public static void main(String[] args) {
        found();
        forget();
        from();
        look();
        lookIsTheLowest();
        Check.end("PiecesTest");
    }

    private static void found() {
        FogTailors x = new FogTailors();
        Check.due("found(0, 0)", x.found(0, 0), FogTailors.BAD);
        Check.due("found(61, 1)", x.found(61, 1), FogTailors.BAD);
        Check.due("found(1, 2)", x.found(1, 2), FogTailors.BAD);
        Check.due("found(1, -1)", x.found(1, -1), FogTailors.BAD);
        Check.due("refused, none", x.count(4), 0);
        for (int i = 1; i <= 6; i++) {
            Check.due("found(60, 1)", x.found(i % 2 == 0 ? 60 : 1, i % 2), i);
        }
        Check.due("a seventh", x.found(1, 1), FogTailors.FULL);
        Check.due("BAD ahead of FULL", x.found(61, 1), FogTailors.BAD);
        Check.due("count(4)", x.count(4), 6);
    }

    private static void forget() {
        FogTailors x = Check.told("d1 0 10;d1 0 20;");
        Check.due("forget()", x.forget(), 0);
        x.found(15, 1);
        x.found(15, 0);
        Check.due("from()", x.from(), 0);
        Check.due("forget()", x.forget(), 2);
        Check.due("forget() again", x.forget(), 0);
        Check.due("from()", x.from(), 3);
        Check.due("found()", x.found(15, 1), 1);
    }

    private static void from() {
        FogTailors x = Check.told("d1 0 10;d1 0 20;d1 0 30;");
        Check.due("nothing found", x.from(), 7);
        x.found(20, 1);
        Check.due("it lifts at that minute", x.from(), 6);
        x.found(30, 0);
        Check.due("it lifts at that minute, it could not be", x.from(), 2);
        x.found(21, 1);
        Check.due("none", x.from(), 0);
        x.forget();
        x.found(31, 0);
        Check.due("all have lifted", x.from(), 7);
        x.found(1, 1);
        Check.due("none has lifted at minute 1", x.from(), 7);
        x.cuts(0, 1);
        x.dawn();
        x.undo();
        Check.due("neither done nor undone", x.from(), 7);
        Check.due("no dawns", new FogTailors().from(), 0);
    }

    private static void look() {
        FogTailors x = Check.told("d1 0 10;d1 0 20;d1 0 30;d1 0 40;");
        Check.due("two and two", x.look(), 21);
        x.found(21, 1);
        Check.due("one and one", x.look(), 31);
        x.found(31, 1);
        Check.due("one can be", x.look(), FogTailors.NONE);
        x.found(31, 0);
        Check.due("none can be", x.look(), FogTailors.NONE);
        x.forget();
        x.found(40, 0);
        Check.due("of three", x.look(), 11);
    }

    private static void lookIsTheLowest() {
        Check.due("alike", Check.told("d1 0 10;d2 0 10;").look(), 1);
        Check.due("lifted at 1", Check.told("d1 0 1;d2 0 10;").look(), 2);
        Check.due("late", Check.told("d1 0 60;d2 0 59;").look(), 60);
        Check.due("one", Check.told("d1 0 60;").look(), FogTailors.NONE);
        Check.due("none", new FogTailors().look(), FogTailors.NONE);
    }
}
