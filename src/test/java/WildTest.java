/** No call ever throws, whatever its numbers are and whatever was called ahead of it. */
final class WildTest {
    private static final int RUNS = 400;
    private static final int CALLS = 512;
    private static final String LETTERS = "dctk;; 001123456789";

    public static void main(String[] args) {
        for (int seed = 0; seed < RUNS; seed++) {
            run(new Luck(seed), new FogTailors());
        }
        Check.due("runs that ended", RUNS, RUNS);
        Check.end("WildTest");
    }

    private static void run(Luck luck, FogTailors x) {
        for (int i = 0; i < CALLS; i++) {
            if (i == CALLS / 3) {
                x.clear();
                Check.type(x, "d40 0 60;d9 1 9;c1 3 3 9;c2 5 1 3;c0 1 0 1;k9;");
                x.marsh();
            }
            call(luck, x);
        }
    }

    private static int wild(Luck luck) {
        switch (luck.of(6)) {
            case 0: return Integer.MIN_VALUE + luck.of(3);
            case 1: return Integer.MAX_VALUE - luck.of(3);
            case 2: return luck.from(-300, 300);
            default: return luck.from(-2, 9);
        }
    }

    private static void call(Luck luck, FogTailors x) {
        int a = wild(luck);
        int b = wild(luck);
        int c = wild(luck);
        switch (luck.of(30)) {
            case 0: x.clear(); break;
            case 1: x.marsh(); break;
            case 2: x.ofDawn(a, b); break;
            case 3: x.client(a, b); break;
            case 4: x.has(a, b); break;
            case 5: x.now(a); break;
            case 6: case 7: x.cuts(a, b); break;
            case 8: x.sews(a); break;
            case 9: x.dawn(); break;
            case 10: x.undo(); break;
            case 11: x.round(a, b); break;
            case 12: x.can(a, b); break;
            case 13: x.plan(a, b); break;
            case 14: x.ways(a, b); break;
            case 15: x.suns(a, b, c); break;
            case 16: x.found(a, b); break;
            case 17: x.forget(); break;
            case 18: x.from(); break;
            case 19: x.look(); break;
            case 20: x.rate(a, b); break;
            case 21: x.keep(a); break;
            case 22: x.back(a); break;
            case 23: x.count(a); break;
            case 24: x.trace(); break;
            case 25: x.type(a); break;
            default: x.type(LETTERS.charAt(luck.of(LETTERS.length()))); break;
        }
    }
}
