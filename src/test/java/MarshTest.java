/** Promises 1 to 8: a new object, type, clear, marsh, ofDawn, client, has, now; and 25, count. */
final class MarshTest {
    public static void main(String[] args) {
        newObject();
        type();
        clear();
        marshReads();
        marshFaults();
        marshOfAFullText();
        marshRefusedChangesNothing();
        marshTellsAllAnew();
        ofDawn();
        client();
        has();
        now();
        count();
        Check.end("MarshTest");
    }

    private static void newObject() {
        FogTailors x = new FogTailors();
        int[] counts = {0, 0, 60, 0, 0, 0};
        for (int what = 0; what < counts.length; what++) {
            Check.due("new: count(" + what + ")", x.count(what), counts[what]);
        }
        for (int what = 0; what < 5; what++) {
            Check.due("new: now(" + what + ")", x.now(what), 0);
        }
        Check.due("new: trace()", x.trace(), 0);
        Check.due("new: ofDawn(0, 0)", x.ofDawn(0, 0), FogTailors.BAD);
        Check.due("new: client(0, 0)", x.client(0, 0), FogTailors.BAD);
        Check.due("new: dawn()", x.dawn(), FogTailors.STATE);
        Check.due("new: undo()", x.undo(), FogTailors.STATE);
        Check.due("new: back(0)", x.back(0), FogTailors.STATE);
        Check.due("new: back(1)", x.back(1), FogTailors.STATE);
        Check.due("new: from()", x.from(), 0);
    }

    private static void type() {
        FogTailors x = new FogTailors();
        Check.due("type(-1)", x.type(-1), FogTailors.BAD);
        Check.due("type(256)", x.type(256), FogTailors.BAD);
        Check.due("type(0)", x.type(0), 1);
        Check.due("type(255)", x.type(255), 2);
        for (int n = 3; n <= 120; n++) {
            Check.due("type(32)", x.type(32), n);
        }
        Check.due("full: type(32)", x.type(32), FogTailors.FULL);
        Check.due("full: type(256)", x.type(256), FogTailors.BAD);
        Check.due("full: count(5)", x.count(5), 120);
        Check.due("full: marsh()", x.marsh(), -10);
        Check.due("full: clear()", x.clear(), 120);
        Check.due("type(100) behind clear()", x.type(100), 1);
    }

    private static void clear() {
        FogTailors x = new FogTailors();
        Check.due("clear()", x.clear(), 0);
        Check.type(x, "d 1 x");
        Check.due("clear()", x.clear(), 5);
        Check.due("clear() again", x.clear(), 0);
        Check.due("marsh() of a text cleared", x.marsh(), 0);
        Check.type(x, "d1 0 1;");
        x.clear();
        Check.type(x, "t50;");
        Check.due("marsh() of what came behind clear()", x.marsh(), 1);
        Check.due("count(0)", x.count(0), 0);
    }

    private static void marshReads() {
        Check.due("no items", Check.marshOf(""), 0);
        Check.due("blanks", Check.marshOf("    "), 0);
        Check.due("a dawn", Check.marshOf("d1 0 1;"), 1);
        Check.due("blanks all over", Check.marshOf("  d  40   2 60  ;  t 10 ; "), 2);
        Check.due("none where none is needed", Check.marshOf("k0;t99;d1 0 1;c0 1 0 1;"), 4);
        Check.due("lowest", Check.marshOf("d1 0 1;c0 1 0 1;t10;k0;"), 4);
        Check.due("highest", Check.marshOf("d40 2 60;c5 12 3 30;t99;k30;"), 4);
        Check.due("four dawns", Check.marshOf("d1 0 1;d1 0 1;d1 0 1;d1 0 1;"), 4);
        Check.due("six clients", Check.marshOf("c0 1 0 1;c0 1 0 1;c0 1 0 1;c0 1 0 1;c0 1 0 1;c0 1 0 1;"), 6);
        FogTailors x = Check.told("d1 0 2;c0 3 1 4;d5 2 6;c5 6 3 7;k8;t98;");
        Check.due("count(0)", x.count(0), 2);
        Check.due("count(1)", x.count(1), 2);
        Check.due("count(2)", x.count(2), 98);
        Check.due("count(3)", x.count(3), 8);
        Check.due("ofDawn(1, 0)", x.ofDawn(1, 0), 5);
        Check.due("client(1, 0)", x.client(1, 0), 5);
    }

    private static void fault(String text, int place) {
        Check.due("marsh() of '" + text + "'", Check.marshOf(text), -10 - place);
    }

    private static void marshFaults() {
        fault("x", 0);
        fault("D1 0 1;", 0);
        fault("  5", 2);
        fault(";", 0);
        fault("d1 0 1;;", 7);
        fault("d", 1);
        fault("d  ", 3);
        fault("d1", 2);
        fault("d1 0", 4);
        fault("d1 0 1", 6);
        fault("d1 0 1 ", 7);
        fault("d;", 1);
        fault("d1;", 2);
        fault("dd", 1);
        fault("d0 0 1;", 1);
        fault("d41 0 1;", 1);
        fault("d 1 3 1;", 4);
        fault("d1 0 0;", 5);
        fault("d1 0 61;", 5);
        fault("d1 0 1 1;", 7);
        fault("d1 0 1d", 6);
        fault("d1 0 1\n;", 6);
        fault("d01 0 1;", 1);
        fault("d1 00 1;", 3);
        fault("d1 0 01;", 5);
        fault("d100 0 1;", 1);
        fault("d4294967297 0 1;", 1);
        fault("d18446744073709551617 0 1;", 1);
        fault("d10 15;", 4);
        fault("d10 1;", 5);
        fault("d10 1 5x;", 7);
        fault("d1 0 1;d1 0 1;d1 0 1;d1 0 1; d", 29);
        fault("c6 1 0 1;", 1);
        fault("c0 0 0 1;", 3);
        fault("c0 13 0 1;", 3);
        fault("c0 1 4 1;", 5);
        fault("c0 1 0 0;", 7);
        fault("c0 1 0 31;", 7);
        fault("c0 1 0;", 6);
        fault("c0 1 0 1 1;", 9);
        fault("c0 1 0 1", 8);
        fault("c0 1 0 1;c0 1 0 1;c0 1 0 1;c0 1 0 1;c0 1 0 1;c0 1 0 1;c", 54);
        fault("t9;", 1);
        fault("t100;", 1);
        fault("t10 ;t", 5);
        fault("t10;k0;t10;", 7);
        fault("t", 1);
        fault("t50", 3);
        fault("t50 50;", 4);
        fault("k31;", 1);
        fault("k00;", 1);
        fault("k5;k5;", 3);
        fault("k;", 1);
        fault("k 7 d", 4);
        fault("c c x", 2);
        fault("d1-0 1;", 2);
        fault("" + (char) 255, 0);
        fault("d" + (char) 0, 1);
    }

    private static String filled(String text, char last) {
        StringBuilder b = new StringBuilder(text);
        while (b.length() < 119) {
            b.append(' ');
        }
        return b.append(last).toString();
    }

    private static void marshOfAFullText() {
        Check.due("120 blanks", Check.marshOf(filled("", ' ')), 0);
        Check.due("the last is ;", Check.marshOf(filled("d9 1 9;t50", ';')), 2);
        fault(filled("d9 1 9;t50", ' '), 120);
        fault(filled("d9 1 9;t", '5'), 119);
        fault(filled("d9 1", '9'), 120);
        fault(filled("d9 1 9;", 'd'), 120);
        fault(filled("d9 1 9;", 'x'), 119);
        Check.due("full of items", Check.marshOf(
            "d40 2 60;d40 2 60;d40 2 60;d40 2 60;c5 12 3 30;c5 12 3 30;c5 12 3 30;c5 12 3 30;c5 12 3 30;c5 12 3 30;t99;k30; "), 12);
        fault("d40 2 60;d40 2 60;d40 2 60;d40 2 60;c5 12 3 30;c5 12 3 30;c5 12 3 30;c5 12 3 30;c5 12 3 30;c5 12 3 30;t99;k30; ;", 111);
    }

    private static void marshRefusedChangesNothing() {
        FogTailors x = Check.told("d9 1 9;c2 3 1 4;t50;k7;");
        x.cuts(0, 2);
        x.keep(0);
        x.found(5, 1);
        Check.type(x, "d1 0 1;c1 1 1 1;t20;k1;q");
        Check.due("marsh()", x.marsh(), -33);
        Check.due("marsh() again", x.marsh(), -33);
        Check.due("count(5)", x.count(5), 24);
        Check.due("count(1)", x.count(1), 1);
        Check.due("count(2)", x.count(2), 50);
        Check.due("count(3)", x.count(3), 7);
        Check.due("count(4)", x.count(4), 1);
        Check.due("ofDawn(0, 0)", x.ofDawn(0, 0), 9);
        Check.due("client(0, 0)", x.client(0, 0), 2);
        Check.due("client(0, 4)", x.client(0, 4), 2);
        Check.due("can(0, 1)", x.can(0, 1), 1);
        Check.due("back(0)", x.back(0), 0);
        Check.due("now(1)", x.now(1), 2);
    }

    private static void marshTellsAllAnew() {
        FogTailors x = Check.told("d9 1 9;d9 1 9;c2 3 1 4;t50;k7;");
        x.cuts(0, 3);
        x.sews(0);
        x.dawn();
        x.keep(0);
        x.keep(1);
        x.found(5, 1);
        x.rate(0, 0);
        Check.type(x, "d3 1 9;c0 1 1 1;");
        Check.due("marsh()", x.marsh(), 2);
        int[] counts = {1, 1, 60, 0, 0, 0};
        for (int what = 0; what < counts.length; what++) {
            Check.due("anew: count(" + what + ")", x.count(what), counts[what]);
        }
        for (int what = 0; what < 5; what++) {
            Check.due("anew: now(" + what + ")", x.now(what), 0);
        }
        Check.due("anew: has(0, 0)", x.has(0, 0), 0);
        Check.due("anew: ofDawn(0, 3)", x.ofDawn(0, 3), 3);
        Check.due("anew: client(0, 6)", x.client(0, 6), 0);
        Check.due("anew: undo()", x.undo(), FogTailors.STATE);
        Check.due("anew: back(0)", x.back(0), FogTailors.STATE);
        Check.due("anew: back(1)", x.back(1), FogTailors.STATE);
        Check.due("anew: trace()", x.trace(), 1);
        Check.due("anew: round(1, -1)", x.round(1, -1), 2);
        Check.due("anew: plan(0, -1)", x.plan(0, -1), 1);
        Check.due("an empty text", x.marsh(), 0);
        Check.due("count(0)", x.count(0), 0);
        Check.due("count(1)", x.count(1), 0);
    }

    private static void ofDawn() {
        FogTailors x = Check.told("d9 1 8;d40 2 60;c2 3 1 4;c0 4 3 1;");
        int[] first = {9, 1, 8, 9};
        int[] second = {40, 2, 60, 40};
        for (int what = 0; what < 4; what++) {
            Check.due("ofDawn(0, " + what + ")", x.ofDawn(0, what), first[what]);
            Check.due("ofDawn(1, " + what + ")", x.ofDawn(1, what), second[what]);
        }
        x.cuts(0, 3);
        x.cuts(1, 2);
        Check.due("left", x.ofDawn(0, 3), 4);
        Check.due("as told", x.ofDawn(0, 0), 9);
        x.dawn();
        Check.due("left of a dawn gone by, yards gone", x.ofDawn(0, 3), 4);
        x.cuts(1, 1);
        Check.due("left of the next", x.ofDawn(1, 3), 39);
        Check.due("ofDawn(2, 0)", x.ofDawn(2, 0), FogTailors.BAD);
        Check.due("ofDawn(-1, 0)", x.ofDawn(-1, 0), FogTailors.BAD);
        Check.due("ofDawn(0, 4)", x.ofDawn(0, 4), FogTailors.BAD);
        Check.due("ofDawn(0, -1)", x.ofDawn(0, -1), FogTailors.BAD);
    }

    private static void client() {
        FogTailors x = Check.told("d9 1 8;d9 1 8;c2 3 1 4;c5 12 3 30;k30;");
        int[] first = {2, 3, 1, 4, 0, 0, 0};
        int[] second = {5, 12, 3, 30, 0, 0, 0};
        for (int what = 0; what < 7; what++) {
            Check.due("client(0, " + what + ")", x.client(0, what), first[what]);
            Check.due("client(1, " + what + ")", x.client(1, what), second[what]);
        }
        x.cuts(0, 1);
        Check.due("yards", x.client(0, 4), 1);
        Check.due("patches of one dawn", x.client(0, 5), 0);
        x.dawn();
        x.cuts(0, 2);
        Check.due("yards of two dawns", x.client(0, 4), 3);
        Check.due("patches of two dawns", x.client(0, 5), 1);
        Check.due("not dressed yet", x.client(0, 6), 0);
        x.sews(0);
        Check.due("dressed", x.client(0, 6), 1);
        Check.due("yards when dressed", x.client(0, 4), 3);
        Check.due("client(2, 0)", x.client(2, 0), FogTailors.BAD);
        Check.due("client(-1, 0)", x.client(-1, 0), FogTailors.BAD);
        Check.due("client(0, 7)", x.client(0, 7), FogTailors.BAD);
        Check.due("client(0, -1)", x.client(0, -1), FogTailors.BAD);
    }

    private static void has() {
        FogTailors x = Check.told("d9 1 8;d9 1 8;c2 5 1 4;c5 12 3 30;k30;");
        x.cuts(0, 1);
        x.cuts(1, 4);
        x.dawn();
        x.cuts(0, 3);
        Check.due("has(0, 0)", x.has(0, 0), 1);
        Check.due("has(0, 1)", x.has(0, 1), 3);
        Check.due("has(1, 0)", x.has(1, 0), 4);
        Check.due("has(1, 1)", x.has(1, 1), 0);
        Check.due("has(2, 0)", x.has(2, 0), FogTailors.BAD);
        Check.due("has(0, 2)", x.has(0, 2), FogTailors.BAD);
        Check.due("has(-1, 0)", x.has(-1, 0), FogTailors.BAD);
        Check.due("has(0, -1)", x.has(0, -1), FogTailors.BAD);
    }

    private static void now() {
        FogTailors x = Check.told("d9 1 8;d9 0 8;d9 2 20;c0 2 3 4;c0 3 3 5;c0 4 3 1;k30;");
        x.cuts(0, 1);
        x.cuts(1, 1);
        x.cuts(2, 1);
        Check.due("minute", x.now(1), 3);
        x.dawn();
        Check.due("dawn", x.now(0), 1);
        Check.due("minute of the next dawn", x.now(1), 0);
        x.cuts(0, 1);
        x.sews(0);
        x.cuts(1, 1);
        x.dawn();
        x.cuts(1, 1);
        Check.due("dressed", x.now(2), 1);
        Check.due("patches of the dressed alone", x.now(3), 1);
        x.sews(1);
        Check.due("dressed", x.now(2), 3);
        Check.due("patches", x.now(3), 3);
        Check.due("minute", x.now(1), 6);
        Check.due("may be undone", x.now(4), 10);
        x.dawn();
        Check.due("over", x.now(0), 3);
        Check.due("may be undone, the eleventh is lost", x.now(4), 10);
        Check.due("now(5)", x.now(5), FogTailors.BAD);
        Check.due("now(-1)", x.now(-1), FogTailors.BAD);
    }

    private static void count() {
        FogTailors x = Check.told("d9 1 8;d9 0 8;c0 2 3 4;t77;k30;");
        x.found(1, 1);
        Check.type(x, "abc");
        int[] counts = {2, 1, 77, 30, 1, 3};
        for (int what = 0; what < counts.length; what++) {
            Check.due("count(" + what + ")", x.count(what), counts[what]);
        }
        Check.due("count(6)", x.count(6), FogTailors.BAD);
        Check.due("count(-1)", x.count(-1), FogTailors.BAD);
    }
}
