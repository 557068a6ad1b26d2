/** Objects that the tests of boundaries begin with: each call of one of these makes another one, just alike. */
final class Stages {
    private Stages() {
    }

    static FogTailors made() {
        return new FogTailors();
    }

    /** 2 DAWNS, 2 CLIENTS: one is DRESSED, the other has a part; an IMAGE, 4 that can be UNDONE, 2 FOUND, a TEXT begun. */
    static FogTailors midway() {
        FogTailors x = Check.told("d9 0 20;d8 1 30;c0 3 3 4;c1 4 3 6;k9;t50;");
        x.cuts(0, 3);
        x.keep(1);
        x.sews(0);
        x.cuts(1, 1);
        x.dawn();
        x.found(15, 1);
        x.found(31, 0);
        x.rate(0, 1);
        Check.type(x, "t20");
        return x;
    }

    /** As many DAWNS, CLIENTS, letters, FOUND, UNDONE, IMAGES as there may be. */
    static FogTailors full() {
        FogTailors x = Check.told("d40 0 60;d1 0 1;d1 0 1;d1 0 1;c0 9 0 1;c0 9 0 1;c0 1 0 1;c0 1 0 1;c0 1 0 1;c0 1 0 1;t99;k30;");
        x.keep(0);
        for (int i = 0; i < 11; i++) {
            x.cuts(i % 2, 1);
        }
        x.keep(1);
        for (int i = 0; i < 6; i++) {
            x.found(60, 1);
        }
        Check.type(x, "t30;" + " ".repeat(116));
        return x;
    }

    /** All DAWNS have gone by. */
    static FogTailors over() {
        FogTailors x = Check.told("d9 0 20;d8 1 30;c0 3 3 4;c1 4 3 6;c1 1 3 6;k9;");
        x.cuts(0, 3);
        x.sews(0);
        x.cuts(1, 4);
        x.dawn();
        x.dawn();
        x.keep(0);
        return x;
    }
}
