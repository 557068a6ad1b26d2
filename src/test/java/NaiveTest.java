/** Promises 1 to 26: runs of 512 calls, each answered by the program as by the plainest form of the document. */
final class NaiveTest {
    private static final int RUNS = 300;
    private static final int CALLS = 512;

    private final Luck luck;
    private final FogTailors x = new FogTailors();
    private final Naive y = new Naive();
    private int calls;

    private NaiveTest(int seed) {
        luck = new Luck(seed);
    }

    public static void main(String[] args) {
        for (int seed = 0; seed < RUNS && !Check.anyWrong(); seed++) {
            new NaiveTest(seed).run();
        }
        Check.end("NaiveTest");
    }

    private void due(String call, int seedless, long got, long want) {
        calls++;
        Check.due("call " + calls + ": " + call + "(" + seedless + " ..)", got, want);
    }

    private void run() {
        while (calls < CALLS - 130) {
            if (calls == 0 || luck.oneIn(70)) {
                tellAnew();
            }
            if (luck.oneIn(3)) {
                ask();
            } else {
                act();
            }
        }
        for (int what = -1; what < 7; what++) {
            due("now", what, x.now(what), y.now(what));
            due("count", what, x.count(what), y.count(what));
        }
        due("trace", 0, x.trace(), y.trace());
    }

    private void tellAnew() {
        if (luck.oneIn(2)) {
            due("clear", 0, x.clear(), y.clear());
        }
        String text = text();
        for (int i = 0; i < text.length(); i++) {
            due("type", text.charAt(i), x.type(text.charAt(i)), y.type(text.charAt(i)));
        }
        due("marsh of '" + text + "' ", 0, x.marsh(), y.marsh());
    }

    private String text() {
        StringBuilder b = new StringBuilder();
        int dawns = luck.oneIn(8) ? luck.of(6) : luck.from(1, 4);
        int clients = luck.oneIn(8) ? luck.of(8) : luck.from(2, 6);
        for (int d = 0; d < dawns; d++) {
            b.append('d').append(luck.from(1, luck.oneIn(2) ? 40 : 15)).append(' ').append(luck.of(luck.oneIn(2) ? 1 : 3));
            b.append(' ').append(luck.from(1, luck.oneIn(2) ? 60 : 20)).append(';');
        }
        int coat = luck.oneIn(2) ? 12 : 4;
        for (int c = 0; c < clients; c++) {
            b.append('c').append(luck.of(6)).append(' ').append(luck.from(1, coat)).append(' ');
            b.append(luck.oneIn(2) ? 3 : luck.of(4)).append(' ').append(luck.from(1, luck.oneIn(2) ? 30 : coat)).append(';');
        }
        if (luck.oneIn(2)) {
            b.append('t').append(luck.from(10, 99)).append(';');
        }
        if (!luck.oneIn(4)) {
            b.append('k').append(luck.of(31)).append(';');
        }
        if (luck.oneIn(3)) {
            spoil(b);
        }
        return b.toString();
    }

    private void spoil(StringBuilder b) {
        String letters = "dctk; 0123456789x";
        for (int i = luck.from(1, 3); i > 0; i--) {
            int place = luck.of(b.length() + 1);
            if (luck.oneIn(2) || place == b.length()) {
                b.insert(place, letters.charAt(luck.of(letters.length())));
            } else {
                b.deleteCharAt(place);
            }
        }
    }

    private void act() {
        int c = luck.from(0, 5);
        int n = luck.from(luck.oneIn(9) ? 0 : 1, luck.oneIn(5) ? 13 : 5);
        switch (luck.of(20)) {
            case 0: due("dawn", 0, x.dawn(), y.dawn()); break;
            case 1: due("undo", 0, x.undo(), y.undo()); break;
            case 2: due("keep", c, x.keep(c - 2), y.keep(c - 2)); break;
            case 3: due("back", c, x.back(c - 2), y.back(c - 2)); break;
            case 4: due("found", n, x.found(n * 5, c - 1), y.found(n * 5, c - 1)); break;
            case 5: due("found", n, x.found(n * 5, c & 1), y.found(n * 5, c & 1)); break;
            case 6: if (luck.oneIn(5)) { due("forget", 0, x.forget(), y.forget()); } break;
            case 7: case 8: case 9: case 10: due("sews", c, x.sews(c), y.sews(c)); break;
            case 11: finish(c); break;
            default: due("cuts", c, x.cuts(c, n), y.cuts(c, n)); break;
        }
    }

    /** Cuts what a client lacks, and sews: by luck alone few would be dressed. */
    private void finish(int c) {
        int lacking = y.client(c, 1) - y.client(c, 4);
        due("cuts", c, x.cuts(c, lacking), y.cuts(c, lacking));
        due("sews", c, x.sews(c), y.sews(c));
    }

    private void ask() {
        int a = luck.from(-1, 7);
        int b = luck.from(-1, 7);
        int set = luck.oneIn(9) ? luck.from(-2, 70) : luck.of(1 << Math.max(0, y.count(1)));
        switch (luck.of(16)) {
            case 0: due("ofDawn", a, x.ofDawn(a, b), y.ofDawn(a, b)); break;
            case 1: due("client", a, x.client(a, b), y.client(a, b)); break;
            case 2: due("has", a, x.has(a, b), y.has(a, b)); break;
            case 3: due("now", a, x.now(a), y.now(a)); break;
            case 4: case 5: due("round", set, x.round(set, b), y.round(set, b)); break;
            case 6: due("can", a, x.can(a % 5, set), y.can(a % 5, set)); break;
            case 7: case 8: case 9: due("plan", a % 3, x.plan(a % 3, b % 6), y.plan(a % 3, b % 6)); break;
            case 10: due("ways", a, x.ways(a, b % 5), y.ways(a, b % 5)); break;
            case 11: due("suns", a, x.suns(a + 4, b % 6, set % 3), y.suns(a + 4, b % 6, set % 3)); break;
            case 12: due("from", 0, x.from(), y.from()); break;
            case 13: due("look", 0, x.look(), y.look()); break;
            case 14: due("rate", a, x.rate(a, b), y.rate(a, b)); break;
            default: due("count", a, x.count(a), y.count(a)); break;
        }
    }
}
