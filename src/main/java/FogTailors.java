/** Tailors in fog: the class that ../shared/DOC.md describes; the words in capitals are that document's. */
public final class FogTailors {
    public static final int BAD = -1, STATE = -2, FULL = -3, NONE = -9;
    public static final int NO = -1000000;

    private static final int MOST_DAWNS = 4;
    private static final int MOST_CLIENTS = 6;
    private static final int MOST_SETS = 1 << MOST_CLIENTS;
    private static final int MOST_LETTERS = 120;
    private static final int MOST_NEEDS = 12;
    private static final int MOST_PATCHES = 3;
    private static final int MOST_PIECES = 6;
    private static final int MOST_IMAGES = 2;
    private static final int MOST_UNDONE = 10;
    private static final int LAST_MINUTE = 60;
    private static final int ANY_FOG = 3;
    private static final int TEN_AT_FIRST = 60;
    private static final int FAULT_AT_START = -10;

    private final Text text = new Text();
    private Told told = new Told();
    private Told spare = new Told();
    private final Standing standing = new Standing();
    private final Past past = new Past();
    private final Standing[] images = new Standing[MOST_IMAGES];
    private final boolean[] kept = new boolean[MOST_IMAGES];
    private final Pieces pieces = new Pieces();
    private final Coats coats = new Coats();
    private long traced;

    public FogTailors() {
        for (int i = 0; i < MOST_IMAGES; i++) {
            images[i] = new Standing();
        }
        beginAnew();
    }

    // ---- the marsh

    public int type(int letter) {
        if (letter < 0 || letter > 255) {
            return BAD;
        }
        return text.add(letter) ? text.length : FULL;
    }

    public int clear() {
        int letters = text.length;
        text.length = 0;
        return letters;
    }

    public int marsh() {
        // Read into the spare one, so that a FAULT leaves all as it was.
        int items = spare.read(text);
        if (items < 0) {
            return items;
        }
        Told old = told;
        told = spare;
        spare = old;
        text.length = 0;
        beginAnew();
        return items;
    }

    private void beginAnew() {
        standing.begin(told);
        past.many = 0;
        pieces.many = 0;
        for (int i = 0; i < MOST_IMAGES; i++) {
            kept[i] = false;
        }
        coats.reckon(told);
    }

    public int ofDawn(int d, int what) {
        if (!isDawn(d)) {
            return BAD;
        }
        switch (what) {
            case 0: return told.yards[d];
            case 1: return told.fogs[d];
            case 2: return told.lifts[d];
            case 3: return standing.left[d];
            default: return BAD;
        }
    }

    public int client(int c, int what) {
        if (!isClient(c)) {
            return BAD;
        }
        switch (what) {
            case 0: return told.kinds[c];
            case 1: return told.needs[c];
            case 2: return told.wants[c];
            case 3: return told.sewing[c];
            case 4: return standing.heldBy(c);
            case 5: return standing.patchesOf(c);
            case 6: return standing.isDressed(c) ? 1 : 0;
            default: return BAD;
        }
    }

    public int has(int c, int d) {
        return isClient(c) && isDawn(d) ? standing.heldOf(c, d) : BAD;
    }

    public int now(int what) {
        switch (what) {
            case 0: return standing.dawn;
            case 1: return standing.minute;
            case 2: return standing.dressed;
            case 3: return patchesOfDressed();
            case 4: return past.many;
            default: return BAD;
        }
    }

    private int patchesOfDressed() {
        int patches = 0;
        for (int c = 0; c < told.clients; c++) {
            if (standing.isDressed(c)) {
                patches += standing.patchesOf(c);
            }
        }
        return patches;
    }

    private boolean isDawn(int d) {
        return d >= 0 && d < told.dawns;
    }

    private boolean isClient(int c) {
        return c >= 0 && c < told.clients;
    }

    private boolean isSet(int set) {
        return set >= 0 && set < 1 << told.clients;
    }

    private static boolean isImage(int image) {
        return image >= 0 && image < MOST_IMAGES;
    }

    // ---- what is done

    public int cuts(int c, int n) {
        if (!isClient(c) || n < 1 || n > MOST_NEEDS) {
            return BAD;
        }
        if (!mayCut(c, n)) {
            return STATE;
        }
        past.remember(standing);
        standing.cut(c, n);
        return standing.heldBy(c);
    }

    private boolean mayCut(int c, int n) {
        int d = standing.dawn;
        return isDawn(d)
            && !standing.isDressed(c)
            && told.suits(d, c)
            && n <= standing.left[d]
            && standing.heldBy(c) + n <= told.needs[c]
            && standing.minute + n <= told.lifts[d];
    }

    public int sews(int c) {
        if (!isClient(c)) {
            return BAD;
        }
        if (!maySew(c)) {
            return STATE;
        }
        past.remember(standing);
        standing.sew(c, told.sewing[c]);
        return standing.minute;
    }

    private boolean maySew(int c) {
        return isDawn(standing.dawn)
            && !standing.isDressed(c)
            && standing.heldBy(c) == told.needs[c]
            && standing.minute + told.sewing[c] <= told.ten;
    }

    public int dawn() {
        if (!isDawn(standing.dawn)) {
            return STATE;
        }
        past.remember(standing);
        return standing.goBy(told.clients, told.cellar);
    }

    public int undo() {
        if (past.many == 0) {
            return STATE;
        }
        past.recall(standing);
        return past.many;
    }

    // ---- coats

    public int round(int set, int k) {
        if (!isSet(set) || k < -1 || k >= MOST_CLIENTS) {
            return BAD;
        }
        return k == -1 ? coats.soonest[set] : coats.inOrder(told, set, k);
    }

    public int can(int d, int set) {
        if (!isDawn(d) || !isSet(set)) {
            return BAD;
        }
        return coats.clothes(d, set) ? 1 : 0;
    }

    public int plan(int from, int c) {
        if (from < 0 || from > told.dawns || c != -1 && !isClient(c)) {
            return BAD;
        }
        int undressed = (1 << told.clients) - 1 & ~standing.dressed;
        return c == -1 ? coats.most[from][undressed] : coats.dawnTold(from, undressed, c);
    }

    public int ways(int c, int p) {
        if (!isClient(c) || p < 0 || p > MOST_PATCHES) {
            return BAD;
        }
        return waysFrom(0, c, p + 1, told.needs[c]);
    }

    /** In how many ways just so many of the DAWNS from d on give just these yards. */
    private int waysFrom(int d, int c, int pieceCount, int yards) {
        if (pieceCount == 0 || d >= told.dawns) {
            return pieceCount == 0 && yards == 0 ? 1 : 0;
        }
        int sum = waysFrom(d + 1, c, pieceCount, yards);
        if (told.suits(d, c)) {
            int most = Math.min(told.yards[d], yards);
            for (int n = 1; n <= most; n++) {
                sum += waysFrom(d + 1, c, pieceCount - 1, yards - n);
            }
        }
        return sum;
    }

    public int suns(int x, int k, int what) {
        if (x < 0 || x > 10 || k < 0 || k > MOST_DAWNS || what < 0 || what > 1) {
            return BAD;
        }
        int upper = chances(told.dawns, x, k);
        int lower = 1;
        for (int d = 0; d < told.dawns; d++) {
            lower *= 10;
        }
        int shared = sharedDivisor(lower, upper);
        return (what == 0 ? upper : lower) / shared;
    }

    /** Of 10 to the power of so many DAWNS: by how many do at most k of them lift at once. */
    private static int chances(int dawns, int x, int k) {
        if (k < 0) {
            return 0;
        }
        if (dawns <= 0) {
            return 1;
        }
        return x * chances(dawns - 1, x, k - 1) + (10 - x) * chances(dawns - 1, x, k);
    }

    /** Of a number above 0 and one not below 0; never below 1. */
    private static int sharedDivisor(int above, int other) {
        int a = above;
        int b = other;
        // Euclid's steps at least halve the larger number at every second one.
        for (int step = 0; step < 64 && b > 0; step++) {
            int rest = a % b;
            a = b;
            b = rest;
        }
        return Math.max(a, 1);
    }

    // ---- pieces

    public int found(int m, int is) {
        if (m < 1 || m > LAST_MINUTE || is < 0 || is > 1) {
            return BAD;
        }
        return pieces.add(m, is == 1) ? pieces.many : FULL;
    }

    public int forget() {
        int many = pieces.many;
        pieces.many = 0;
        return many;
    }

    public int from() {
        int dawns = 0;
        for (int d = 0; d < told.dawns; d++) {
            if (pieces.agreeWith(told.lifts[d])) {
                dawns |= 1 << d;
            }
        }
        return dawns;
    }

    public int look() {
        int dawns = from();
        if (Integer.bitCount(dawns) <= 1) {
            return NONE;
        }
        int best = 1;
        for (int m = 2; m <= LAST_MINUTE; m++) {
            if (greaterPart(dawns, m) < greaterPart(dawns, best)) {
                best = m;
            }
        }
        return best;
    }

    private int greaterPart(int dawns, int m) {
        int could = 0;
        for (int d = 0; d < told.dawns; d++) {
            if ((dawns >> d & 1) == 1 && told.lifts[d] >= m) {
                could++;
            }
        }
        return Math.max(could, Integer.bitCount(dawns) - could);
    }

    // ---- kinds, images

    public int rate(int kind, int c) {
        if (!isClient(c)) {
            return NO;
        }
        switch (kind) {
            case 0: return rateCoat(c);
            case 1: return rateCape(c);
            case 2: return rateGown(c);
            case 3: return rateJudge(c);
            case 4: return rateBride(c);
            case 5: return rateShirt(c);
            default: return NO;
        }
    }

    private int rateCoat(int c) {
        traced += 1;
        return told.needs[c];
    }

    private int rateCape(int c) {
        traced += 10;
        return rateCoat(c) + standing.heldBy(c);
    }

    private int rateGown(int c) {
        traced += 100;
        return rateCoat(c) - told.sewing[c];
    }

    private int rateJudge(int c) {
        traced += 1000;
        return 2 * rateCape(c);
    }

    private int rateBride(int c) {
        traced += 10000;
        return rateGown(c) + c;
    }

    private int rateShirt(int c) {
        traced += 100000;
        return rateCoat(c) + standing.minute;
    }

    public int keep(int image) {
        if (!isImage(image)) {
            return BAD;
        }
        images[image].become(standing);
        kept[image] = true;
        return standing.dawn;
    }

    public int back(int image) {
        if (!isImage(image)) {
            return BAD;
        }
        if (!kept[image]) {
            return STATE;
        }
        standing.become(images[image]);
        past.many = 0;
        return standing.dawn;
    }

    public int count(int what) {
        switch (what) {
            case 0: return told.dawns;
            case 1: return told.clients;
            case 2: return told.ten;
            case 3: return told.cellar;
            case 4: return pieces.many;
            case 5: return text.length;
            default: return BAD;
        }
    }

    public long trace() {
        return traced;
    }

    /** THE TEXT, and the TOKEN of it that was read last. */
    private static final class Text {
        static final int END = -1, WRONG = -2, NUMBER = -3;

        final int[] letters = new int[MOST_LETTERS];
        int length;
        int at;
        int start;
        int token;
        int number;

        boolean add(int letter) {
            if (length >= MOST_LETTERS) {
                return false;
            }
            letters[length] = letter;
            length++;
            return true;
        }

        void rewind() {
            at = 0;
        }

        /** Reads the next TOKEN: its letter, NUMBER, WRONG or END; start is the place of its first letter. */
        void step() {
            while (at < length && letters[at] == ' ') {
                at++;
            }
            start = at;
            number = 0;
            while (at < length && isDigit(letters[at])) {
                // What is above 99 is WRONG however long it is: 100 stands for all of these.
                number = Math.min(number * 10 + letters[at] - '0', 100);
                at++;
            }
            if (at > start) {
                boolean zeroAhead = letters[start] == '0' && at > start + 1;
                token = zeroAhead || number > 99 ? WRONG : NUMBER;
            } else if (at >= length) {
                token = END;
            } else {
                token = isSign(letters[at]) ? letters[at] : WRONG;
                at++;
            }
        }

        private static boolean isDigit(int letter) {
            return letter >= '0' && letter <= '9';
        }

        private static boolean isSign(int letter) {
            return letter == 'd' || letter == 'c' || letter == 't' || letter == 'k' || letter == ';';
        }
    }

    /** What THE TEXT told: DAWNS, CLIENTS, TEN, CELLAR. */
    private static final class Told {
        int dawns;
        final int[] yards = new int[MOST_DAWNS];
        final int[] fogs = new int[MOST_DAWNS];
        final int[] lifts = new int[MOST_DAWNS];
        int clients;
        final int[] kinds = new int[MOST_CLIENTS];
        final int[] needs = new int[MOST_CLIENTS];
        final int[] wants = new int[MOST_CLIENTS];
        final int[] sewing = new int[MOST_CLIENTS];
        int ten = TEN_AT_FIRST;
        int cellar;
        private boolean tenIsTold;
        private boolean cellarIsTold;

        boolean suits(int d, int c) {
            return wants[c] == ANY_FOG || wants[c] == fogs[d];
        }

        boolean suitsAll(int d, int set) {
            for (int c = 0; c < clients; c++) {
                if ((set >> c & 1) == 1 && !suits(d, c)) {
                    return false;
                }
            }
            return true;
        }

        int needsOf(int set) {
            return sumOf(needs, set);
        }

        int sewingOf(int set) {
            return sumOf(sewing, set);
        }

        private int sumOf(int[] minutes, int set) {
            int sum = 0;
            for (int c = 0; c < clients; c++) {
                if ((set >> c & 1) == 1) {
                    sum += minutes[c];
                }
            }
            return sum;
        }

        /** How many ITEMS; -10 less FAULT, and then what was read is of no use. */
        int read(Text text) {
            unsay();
            text.rewind();
            for (int items = 0; items < MOST_LETTERS; items++) {
                text.step();
                if (text.token == Text.END) {
                    return items;
                }
                if (!readItem(text)) {
                    break;
                }
            }
            // An ITEM takes more than one letter, so that the loop ends by END or by a FAULT alone.
            return FAULT_AT_START - text.start;
        }

        private void unsay() {
            dawns = 0;
            clients = 0;
            ten = TEN_AT_FIRST;
            cellar = 0;
            tenIsTold = false;
            cellarIsTold = false;
        }

        private boolean readItem(Text text) {
            switch (text.token) {
                case 'd': return readDawn(text);
                case 'c': return readClient(text);
                case 't': return readTen(text);
                case 'k': return readCellar(text);
                default: return false;
            }
        }

        private boolean readDawn(Text text) {
            int d = dawns;
            if (d >= MOST_DAWNS || !readNumber(text, 1, 40)) {
                return false;
            }
            yards[d] = text.number;
            if (!readNumber(text, 0, 2)) {
                return false;
            }
            fogs[d] = text.number;
            if (!readNumber(text, 1, LAST_MINUTE)) {
                return false;
            }
            lifts[d] = text.number;
            dawns++;
            return readItemsEnd(text);
        }

        private boolean readClient(Text text) {
            int c = clients;
            if (c >= MOST_CLIENTS || !readNumber(text, 0, 5)) {
                return false;
            }
            kinds[c] = text.number;
            if (!readNumber(text, 1, MOST_NEEDS)) {
                return false;
            }
            needs[c] = text.number;
            if (!readNumber(text, 0, ANY_FOG)) {
                return false;
            }
            wants[c] = text.number;
            if (!readNumber(text, 1, 30)) {
                return false;
            }
            sewing[c] = text.number;
            clients++;
            return readItemsEnd(text);
        }

        private boolean readTen(Text text) {
            if (tenIsTold || !readNumber(text, 10, 99)) {
                return false;
            }
            tenIsTold = true;
            ten = text.number;
            return readItemsEnd(text);
        }

        private boolean readCellar(Text text) {
            if (cellarIsTold || !readNumber(text, 0, 30)) {
                return false;
            }
            cellarIsTold = true;
            cellar = text.number;
            return readItemsEnd(text);
        }

        private static boolean readNumber(Text text, int low, int high) {
            text.step();
            return text.token == Text.NUMBER && text.number >= low && text.number <= high;
        }

        private static boolean readItemsEnd(Text text) {
            text.step();
            return text.token == ';';
        }
    }

    /** How things stand: THE DAWN, THE MINUTE, all yards, who is DRESSED. */
    private static final class Standing {
        int dawn;
        int minute;
        int dressed;
        final int[] left = new int[MOST_DAWNS];
        private final int[] held = new int[MOST_CLIENTS * MOST_DAWNS];

        void begin(Told told) {
            dawn = 0;
            minute = 0;
            dressed = 0;
            System.arraycopy(told.yards, 0, left, 0, MOST_DAWNS);
            for (int c = 0; c < MOST_CLIENTS; c++) {
                loseAll(c);
            }
        }

        void become(Standing other) {
            dawn = other.dawn;
            minute = other.minute;
            dressed = other.dressed;
            System.arraycopy(other.left, 0, left, 0, MOST_DAWNS);
            System.arraycopy(other.held, 0, held, 0, MOST_CLIENTS * MOST_DAWNS);
        }

        boolean isDressed(int c) {
            return (dressed >> c & 1) == 1;
        }

        int heldOf(int c, int d) {
            return held[c * MOST_DAWNS + d];
        }

        int heldBy(int c) {
            int yards = 0;
            for (int d = 0; d < MOST_DAWNS; d++) {
                yards += heldOf(c, d);
            }
            return yards;
        }

        int patchesOf(int c) {
            int dawns = 0;
            for (int d = 0; d < MOST_DAWNS; d++) {
                if (heldOf(c, d) > 0) {
                    dawns++;
                }
            }
            return Math.max(dawns - 1, 0);
        }

        void cut(int c, int n) {
            held[c * MOST_DAWNS + dawn] += n;
            left[dawn] -= n;
            minute += n;
        }

        void sew(int c, int minutes) {
            dressed |= 1 << c;
            minute += minutes;
        }

        /** How many yards are gone. */
        int goBy(int clients, int cellar) {
            int room = cellar;
            int gone = 0;
            for (int c = 0; c < clients; c++) {
                int yards = isDressed(c) ? 0 : heldBy(c);
                if (yards <= room) {
                    room -= yards;
                } else {
                    gone += yards;
                    loseAll(c);
                }
            }
            minute = 0;
            dawn++;
            return gone;
        }

        private void loseAll(int c) {
            for (int d = 0; d < MOST_DAWNS; d++) {
                held[c * MOST_DAWNS + d] = 0;
            }
        }
    }

    /** How things stood ahead of the latest calls that can be UNDONE: a ring, the oldest is written over. */
    private static final class Past {
        private final Standing[] known = new Standing[MOST_UNDONE];
        private int next;
        int many;

        Past() {
            for (int i = 0; i < MOST_UNDONE; i++) {
                known[i] = new Standing();
            }
        }

        void remember(Standing standing) {
            known[next].become(standing);
            next = (next + 1) % MOST_UNDONE;
            many = Math.min(many + 1, MOST_UNDONE);
        }

        void recall(Standing standing) {
            next = (next + MOST_UNDONE - 1) % MOST_UNDONE;
            standing.become(known[next]);
            many--;
        }
    }

    /** What was FOUND. */
    private static final class Pieces {
        private final int[] minutes = new int[MOST_PIECES];
        private final boolean[] could = new boolean[MOST_PIECES];
        int many;

        boolean add(int m, boolean is) {
            if (many >= MOST_PIECES) {
                return false;
            }
            minutes[many] = m;
            could[many] = is;
            many++;
            return true;
        }

        boolean agreeWith(int lifts) {
            for (int i = 0; i < many; i++) {
                if (lifts >= minutes[i] != could[i]) {
                    return false;
                }
            }
            return true;
        }
    }

    /** ROUND, CAN and PLAN of all sets: they hang on what is told alone, so they are reckoned once. */
    private static final class Coats {
        private int dawns;
        private int clients;
        /** When the ROUND of a set is done. */
        final int[] soonest = new int[MOST_SETS];
        /** For each DAWN: the sets that it CAN, as bits. */
        private final long[] clothed = new long[MOST_DAWNS];
        /** For each DAWN: how many of a set it and those behind it CAN in all. */
        final int[][] most = new int[MOST_DAWNS + 1][MOST_SETS];
        private final int[] setTold = new int[MOST_DAWNS];
        private final int[] dawnOf = new int[MOST_CLIENTS];

        void reckon(Told told) {
            dawns = told.dawns;
            clients = told.clients;
            for (int set = 0; set < 1 << clients; set++) {
                soonest[set] = soonestOf(told, set);
                most[dawns][set] = 0;
            }
            for (int d = dawns - 1; d >= 0; d--) {
                clothed[d] = clothedBy(told, d);
                for (int set = 0; set < 1 << clients; set++) {
                    most[d][set] = mostOf(d, set);
                }
            }
        }

        /** Whoever is last waits for all the cutting and for the ones ahead, who should be done soonest themselves. */
        private int soonestOf(Told told, int set) {
            int cut = told.needsOf(set);
            int best = 0;
            for (int c = 0; c < clients; c++) {
                if ((set >> c & 1) == 1) {
                    int end = Math.max(cut, soonest[set & ~(1 << c)]) + told.sewing[c];
                    best = best == 0 ? end : Math.min(best, end);
                }
            }
            return best;
        }

        private long clothedBy(Told told, int d) {
            long sets = 0;
            for (int set = 0; set < 1 << clients; set++) {
                int cut = told.needsOf(set);
                if (told.suitsAll(d, set) && cut <= told.yards[d] && cut <= told.lifts[d]
                    && soonest[set] <= told.ten) {
                    sets |= 1L << set;
                }
            }
            return sets;
        }

        private int mostOf(int d, int set) {
            int best = 0;
            for (int part = 0; part <= set; part++) {
                if ((part & ~set) == 0 && clothes(d, part)) {
                    best = Math.max(best, Integer.bitCount(part) + most[d + 1][set & ~part]);
                }
            }
            return best;
        }

        boolean clothes(int d, int set) {
            return (clothed[d] >> set & 1) == 1;
        }

        /** The k-th CLIENT of the first among the soonest orders: place by place the lowest who keeps to the time. */
        int inOrder(Told told, int set, int k) {
            int open = set;
            int cut = 0;
            for (int place = 0; place < MOST_CLIENTS; place++) {
                int c = lowestInTime(told, open, cut, soonest[set]);
                if (c == NONE || place == k) {
                    return c;
                }
                open &= ~(1 << c);
                cut += told.needs[c];
            }
            return NONE;
        }

        private int lowestInTime(Told told, int open, int cut, int end) {
            for (int c = 0; c < clients; c++) {
                if ((open >> c & 1) == 1 && cut + told.needs[c] + leastBehind(told, open, c) <= end) {
                    return c;
                }
            }
            return NONE;
        }

        /**
         * How much time is needed once c, the next of the open ones, is cut: all their sewing, and the ROUND of the others.
         * What is still being sewn then was counted when those ahead were chosen.
         */
        private int leastBehind(Told told, int open, int c) {
            return Math.max(told.sewingOf(open), soonest[open & ~(1 << c)]);
        }

        /** The DAWN that PLAN tells a CLIENT; NONE. */
        int dawnTold(int from, int undressed, int c) {
            for (int d = 0; d < MOST_DAWNS; d++) {
                setTold[d] = 0;
            }
            return tell(0, from, undressed, most[from][undressed]) ? dawnOf[c] : NONE;
        }

        /** Tells the CLIENTS from c on the first DAWNS by which so many as wanted are told one; whether it can be. */
        private boolean tell(int c, int from, int open, int wanted) {
            if (c >= clients) {
                return wanted <= 0;
            }
            int rest = open & ~(1 << c);
            // More than these can't be told behind c, whatever is told already.
            int mostBehind = most[from][rest];
            if (rest != open && mostBehind + 1 >= wanted) {
                for (int d = from; d < dawns; d++) {
                    if (tellOne(c, d) && tell(c + 1, from, rest, wanted - 1)) {
                        return true;
                    }
                    setTold[d] &= ~(1 << c);
                }
            }
            dawnOf[c] = NONE;
            return mostBehind >= wanted && tell(c + 1, from, rest, wanted);
        }

        private boolean tellOne(int c, int d) {
            int set = setTold[d] | 1 << c;
            if (!clothes(d, set)) {
                return false;
            }
            setTold[d] = set;
            dawnOf[c] = d;
            return true;
        }
    }
}
