import java.util.ArrayList;
import java.util.List;
import java.util.function.Supplier;
import java.util.function.ToLongFunction;

/** Two objects made alike: what one answers behind a call that changes nothing, the other answers without it. */
final class Twins {
    private final FogTailors x;
    private final List<Long> seen = new ArrayList<>();

    private Twins(FogTailors x) {
        this.x = x;
    }

    /** A call that answers this, and by which nothing is changed. */
    static void unchanged(String call, Supplier<FogTailors> maker, ToLongFunction<FogTailors> asked, long want) {
        FogTailors x = maker.get();
        Check.due(call, asked.applyAsLong(x), want);
        same(call, x, maker.get());
    }

    /** A call that answers anything else than its refusal, and by which nothing is changed. */
    static void answered(String call, Supplier<FogTailors> maker, ToLongFunction<FogTailors> asked, long refusal) {
        FogTailors x = maker.get();
        Check.due(call + " is let in", asked.applyAsLong(x) != refusal ? 1 : 0, 1);
        same(call, x, maker.get());
    }

    private static void same(String call, FogTailors one, FogTailors other) {
        List<Long> seen = new Twins(one).all();
        List<Long> due = new Twins(other).all();
        Check.due(call + " changes nothing, seen are " + seen + ", due are " + due, seen.equals(due) ? 1 : 0, 1);
    }

    /** Some 200 calls of an object that is full: it may have been used for some 300 ahead of these. */
    private List<Long> all() {
        told();
        standing();
        for (int left = x.now(4); left > 0; left--) {
            add(x.undo());
            add(x.now(1));
            add(x.now(2));
        }
        add(x.undo());
        standing();
        for (int image = 0; image < 2; image++) {
            add(x.back(image));
            standing();
        }
        add(x.marsh());
        counts();
        return seen;
    }

    private void add(long answer) {
        seen.add(answer);
    }

    private void counts() {
        for (int what = 0; what < 6; what++) {
            add(x.count(what));
        }
    }

    private void told() {
        counts();
        int dawns = x.count(0);
        for (int i = 0; i < dawns * 3; i++) {
            add(x.ofDawn(i / 3, i % 3));
        }
        int clients = x.count(1);
        for (int i = 0; i < clients * 4; i++) {
            add(x.client(i / 4, i % 4));
        }
        add(x.from());
        add(x.trace());
    }

    private void standing() {
        for (int what = 0; what < 5; what++) {
            add(x.now(what));
        }
        int dawns = x.count(0);
        int clients = x.count(1);
        for (int d = 0; d < dawns; d++) {
            add(x.ofDawn(d, 3));
            for (int c = 0; c < clients; c++) {
                add(x.has(c, d));
            }
        }
    }
}
