/** Promises 13 to 17: all that can be asked of many texts, answered as by trying every order and every way. */
final class SweepTest {
    private static final int TEXTS = 60;

    private final Luck luck;
    private String text;
    private FogTailors x;
    private Naive y;
    private int calls;

    private SweepTest(int seed) {
        luck = new Luck(seed + 1000);
    }

    public static void main(String[] args) {
        for (int seed = 0; seed < TEXTS && !Check.anyWrong(); seed++) {
            new SweepTest(seed).run();
        }
        Check.end("SweepTest");
    }

    /** A new object in time: nothing is promised behind the 512th call. */
    private void refresh() {
        calls++;
        if (calls % 300 == 1) {
            x = Check.told(text);
            y = new Naive();
            for (int i = 0; i < text.length(); i++) {
                y.type(text.charAt(i));
            }
            y.marsh();
        }
    }

    private void due(String call, int a, int b, int got, int want) {
        Check.due(text + " " + call + "(" + a + ", " + b + ")", got, want);
    }

    private void run() {
        text = text();
        for (int set = 0; set < 64; set++) {
            for (int k = -1; k < 6; k++) {
                refresh();
                due("round", set, k, x.round(set, k), y.round(set, k));
            }
            for (int d = 0; d < 4; d++) {
                refresh();
                due("can", d, set, x.can(d, set), y.can(d, set));
            }
        }
        for (int c = -1; c < 6; c++) {
            for (int n = 0; n < 5; n++) {
                refresh();
                due("plan", n, c, x.plan(n, c), y.plan(n, c));
                due("ways", c, n, x.ways(c, n), y.ways(c, n));
            }
        }
        for (int tenths = 0; tenths <= 10; tenths++) {
            for (int k = 0; k < 5; k++) {
                refresh();
                due("suns .. 0", tenths, k, x.suns(tenths, k, 0), y.suns(tenths, k, 0));
                due("suns .. 1", tenths, k, x.suns(tenths, k, 1), y.suns(tenths, k, 1));
            }
        }
    }

    private String text() {
        StringBuilder b = new StringBuilder();
        int dawns = luck.from(1, 4);
        int few = luck.oneIn(2) ? 12 : 4;
        int fogs = luck.oneIn(2) ? 1 : 3;
        for (int d = 0; d < dawns; d++) {
            b.append('d').append(luck.from(1, luck.oneIn(2) ? 40 : few)).append(' ').append(luck.of(fogs)).append(' ');
            b.append(luck.from(1, luck.oneIn(2) ? 60 : 15)).append(';');
        }
        int clients = luck.from(3, 6);
        int longest = luck.oneIn(3) ? 30 : few;
        for (int c = 0; c < clients; c++) {
            b.append('c').append(luck.of(6)).append(' ').append(luck.from(1, few)).append(' ');
            b.append(luck.oneIn(2) ? 3 : luck.of(fogs)).append(' ').append(luck.from(1, longest)).append(';');
        }
        if (luck.oneIn(2)) {
            b.append('t').append(luck.from(10, 70)).append(';');
        }
        return b.toString();
    }
}
