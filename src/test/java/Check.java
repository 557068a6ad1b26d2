/** What the tests share: answers that are due, and texts typed letter by letter. */
final class Check {
    private static int right;
    private static int wrong;

    private Check() {
    }

    static void due(String call, long got, long want) {
        if (got == want) {
            right++;
        } else {
            wrong++;
            System.out.println(call + " answered " + got + ", due is " + want);
        }
    }

    /** Types a text that has room. */
    static FogTailors type(FogTailors x, String text) {
        for (int i = 0; i < text.length(); i++) {
            x.type(text.charAt(i));
        }
        return x;
    }

    /** A new object that has read a text without a fault. */
    static FogTailors told(String text) {
        FogTailors x = type(new FogTailors(), text);
        int items = x.marsh();
        if (items < 0) {
            due("marsh() of " + text, items, 0);
        }
        return x;
    }

    /** What marsh() answers of a text on a new object. */
    static int marshOf(String text) {
        return type(new FogTailors(), text).marsh();
    }

    static boolean anyWrong() {
        return wrong > 0;
    }

    /** Ends the test: with exit code 1, if an answer was not the one that is due. */
    static void end(String test) {
        System.out.println(test + ": " + right + " answers as due, " + wrong + " not");
        if (wrong > 0 || right == 0) {
            System.exit(1);
        }
    }
}
