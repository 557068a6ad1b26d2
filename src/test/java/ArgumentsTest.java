import java.util.ArrayList;
import java.util.List;
import java.util.function.Supplier;

/**
 * Each number of each call: the last that is let in and the first that isn't, at each end, in every state; what is BAD
 * is BAD ahead of all else, and changes nothing. And calls that only ask change nothing, whatever they answer.
 */
final class ArgumentsTest {
    private interface Asked {
        long of(FogTailors x, int[] numbers);
    }

    /** A call, its refusal, the lowest and the highest of each of its numbers; whether it only asks. */
    private record Face(String name, int refusal, boolean asks, int[][] bounds, Asked asked) {
    }

    public static void main(String[] args) {
        all("made", Stages::made, 0, 0);
        all("midway", Stages::midway, 2, 2);
        all("full", Stages::full, 4, 6);
        all("over", Stages::over, 2, 3);
        Check.end("ArgumentsTest");
    }

    private static int[] span(int low, int high) {
        return new int[] {low, high};
    }

    private static Face asks(String name, Asked asked, int[]... bounds) {
        return new Face(name, FogTailors.BAD, true, bounds, asked);
    }

    private static Face does(String name, Asked asked, int[]... bounds) {
        return new Face(name, FogTailors.BAD, false, bounds, asked);
    }

    private static List<Face> faces(int dawns, int clients) {
        int[] d = span(0, dawns - 1);
        int[] c = span(0, clients - 1);
        int[] set = span(0, (1 << clients) - 1);
        List<Face> faces = new ArrayList<>();
        faces.add(does("type", (x, n) -> x.type(n[0]), span(0, 255)));
        faces.add(asks("ofDawn", (x, n) -> x.ofDawn(n[0], n[1]), d, span(0, 3)));
        faces.add(asks("client", (x, n) -> x.client(n[0], n[1]), c, span(0, 6)));
        faces.add(asks("has", (x, n) -> x.has(n[0], n[1]), c, d));
        faces.add(asks("now", (x, n) -> x.now(n[0]), span(0, 4)));
        faces.add(does("cuts", (x, n) -> x.cuts(n[0], n[1]), c, span(1, 12)));
        faces.add(does("sews", (x, n) -> x.sews(n[0]), c));
        faces.add(asks("round", (x, n) -> x.round(n[0], n[1]), set, span(-1, 5)));
        faces.add(asks("can", (x, n) -> x.can(n[0], n[1]), d, set));
        faces.add(asks("plan", (x, n) -> x.plan(n[0], n[1]), span(0, dawns), span(-1, clients - 1)));
        faces.add(asks("ways", (x, n) -> x.ways(n[0], n[1]), c, span(0, 3)));
        faces.add(asks("suns", (x, n) -> x.suns(n[0], n[1], n[2]), span(0, 10), span(0, 4), span(0, 1)));
        faces.add(does("found", (x, n) -> x.found(n[0], n[1]), span(1, 60), span(0, 1)));
        faces.add(asks("from", (x, n) -> x.from()));
        faces.add(asks("look", (x, n) -> x.look()));
        faces.add(new Face("rate", FogTailors.NO, false, new int[][] {span(0, 5), c}, (x, n) -> x.rate(n[0], n[1])));
        faces.add(does("keep", (x, n) -> x.keep(n[0]), span(0, 1)));
        faces.add(does("back", (x, n) -> x.back(n[0]), span(0, 1)));
        faces.add(asks("count", (x, n) -> x.count(n[0]), span(0, 5)));
        faces.add(asks("trace", (x, n) -> x.trace()));
        return faces;
    }

    private static void all(String stage, Supplier<FogTailors> maker, int dawns, int clients) {
        for (Face face : faces(dawns, clients)) {
            each(stage, maker, face, new int[face.bounds.length], 0);
        }
    }

    private static void each(String stage, Supplier<FogTailors> maker, Face face, int[] numbers, int place) {
        if (place == numbers.length) {
            one(stage, maker, face, numbers.clone());
            return;
        }
        int low = face.bounds[place][0];
        int high = face.bounds[place][1];
        for (int n : new int[] {Integer.MIN_VALUE, low - 1, low, high, high + 1, Integer.MAX_VALUE}) {
            numbers[place] = n;
            each(stage, maker, face, numbers, place + 1);
        }
    }

    private static void one(String stage, Supplier<FogTailors> maker, Face face, int[] numbers) {
        StringBuilder call = new StringBuilder(stage + ": " + face.name + "(");
        boolean in = true;
        for (int i = 0; i < numbers.length; i++) {
            in &= numbers[i] >= face.bounds[i][0] && numbers[i] <= face.bounds[i][1];
            call.append(i == 0 ? "" : ", ").append(numbers[i]);
        }
        call.append(')');
        if (!in) {
            Twins.unchanged(call.toString(), maker, x -> face.asked.of(x, numbers), face.refusal);
        } else if (face.asks) {
            Twins.answered(call.toString(), maker, x -> face.asked.of(x, numbers), face.refusal);
        } else {
            long got = face.asked.of(maker.get(), numbers);
            Check.due(call + " is let in", got != face.refusal ? 1 : 0, 1);
        }
    }
}
