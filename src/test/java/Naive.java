import java.util.ArrayDeque;
import java.util.ArrayList;
import java.util.Arrays;
import java.util.List;

/** The document once more, in the slowest and plainest form: every order, every way is tried. */
final class Naive {
    private static final class State {
        int dawn;
        int minute;
        boolean[] dressed = new boolean[6];
        int[] left = new int[4];
        int[][] has = new int[6][4];

        State copy() {
            State s = new State();
            s.dawn = dawn;
            s.minute = minute;
            s.dressed = dressed.clone();
            s.left = left.clone();
            for (int c = 0; c < 6; c++) {
                s.has[c] = has[c].clone();
            }
            return s;
        }

        int yards(int c) {
            return Arrays.stream(has[c]).sum();
        }

        int patches(int c) {
            return Math.max(0, (int) Arrays.stream(has[c]).filter(y -> y > 0).count() - 1);
        }
    }

    private static final class Fault extends RuntimeException {
        private static final long serialVersionUID = 1;
        final int place;

        Fault(int place) {
            this.place = place;
        }
    }

    private String text = "";
    private List<int[]> dawns = new ArrayList<>();
    private List<int[]> clients = new ArrayList<>();
    private int ten = 60;
    private int cellar;
    private State s = new State();
    private final ArrayDeque<State> past = new ArrayDeque<>();
    private final State[] images = new State[2];
    private final List<int[]> pieces = new ArrayList<>();
    private long trace;

    private boolean d(int d) {
        return d >= 0 && d < dawns.size();
    }

    private boolean c(int c) {
        return c >= 0 && c < clients.size();
    }

    private boolean set(int set) {
        return set >= 0 && set < (1 << clients.size());
    }

    int type(int letter) {
        if (letter < 0 || letter > 255) {
            return -1;
        }
        if (text.length() == 120) {
            return -3;
        }
        text += (char) letter;
        return text.length();
    }

    int clear() {
        int n = text.length();
        text = "";
        return n;
    }

    // Tokens are cut off the text ahead of all reading: {place, kind, number}; kind 0 is a NUMBER, 1 a wrong one.
    private List<int[]> tokens() {
        List<int[]> tokens = new ArrayList<>();
        int i = 0;
        while (i < text.length()) {
            char ch = text.charAt(i);
            if (ch == ' ') {
                i++;
            } else if (ch >= '0' && ch <= '9') {
                int j = i;
                while (j < text.length() && text.charAt(j) >= '0' && text.charAt(j) <= '9') {
                    j++;
                }
                String number = text.substring(i, j);
                boolean fine = number.length() <= 2 && (number.length() == 1 || ch != '0');
                tokens.add(new int[] {i, fine ? 0 : 1, fine ? Integer.parseInt(number) : -1});
                i = j;
            } else {
                tokens.add(new int[] {i, "dctk;".indexOf(ch) >= 0 ? ch : 1, -1});
                i++;
            }
        }
        tokens.add(new int[] {text.length(), 2, -1});
        return tokens;
    }

    private static int number(int[] token, int low, int high) {
        if (token[1] != 0 || token[2] < low || token[2] > high) {
            throw new Fault(token[0]);
        }
        return token[2];
    }

    int marsh() {
        List<int[]> newDawns = new ArrayList<>();
        List<int[]> newClients = new ArrayList<>();
        int newTen = -1;
        int newCellar = -1;
        int items = 0;
        try {
            List<int[]> t = tokens();
            int i = 0;
            while (t.get(i)[1] != 2) {
                int kind = t.get(i)[1];
                if (kind == 'd' && newDawns.size() < 4) {
                    newDawns.add(new int[] {number(t.get(i + 1), 1, 40), number(t.get(i + 2), 0, 2), number(t.get(i + 3), 1, 60)});
                    i += 4;
                } else if (kind == 'c' && newClients.size() < 6) {
                    newClients.add(new int[] {number(t.get(i + 1), 0, 5), number(t.get(i + 2), 1, 12),
                        number(t.get(i + 3), 0, 3), number(t.get(i + 4), 1, 30)});
                    i += 5;
                } else if (kind == 't' && newTen < 0) {
                    newTen = number(t.get(i + 1), 10, 99);
                    i += 2;
                } else if (kind == 'k' && newCellar < 0) {
                    newCellar = number(t.get(i + 1), 0, 30);
                    i += 2;
                } else {
                    throw new Fault(t.get(i)[0]);
                }
                if (t.get(i)[1] != ';') {
                    throw new Fault(t.get(i)[0]);
                }
                i++;
                items++;
            }
        } catch (Fault fault) {
            return -10 - fault.place;
        }
        dawns = newDawns;
        clients = newClients;
        ten = newTen < 0 ? 60 : newTen;
        cellar = newCellar < 0 ? 0 : newCellar;
        text = "";
        s = new State();
        for (int d = 0; d < dawns.size(); d++) {
            s.left[d] = dawns.get(d)[0];
        }
        past.clear();
        pieces.clear();
        images[0] = null;
        images[1] = null;
        return items;
    }

    int ofDawn(int d, int what) {
        if (!d(d) || what < 0 || what > 3) {
            return -1;
        }
        return what == 3 ? s.left[d] : dawns.get(d)[what];
    }

    int client(int c, int what) {
        if (!c(c) || what < 0 || what > 6) {
            return -1;
        }
        if (what < 4) {
            return clients.get(c)[what];
        }
        return what == 4 ? s.yards(c) : what == 5 ? s.patches(c) : s.dressed[c] ? 1 : 0;
    }

    int has(int c, int d) {
        return c(c) && d(d) ? s.has[c][d] : -1;
    }

    int now(int what) {
        if (what == 0) {
            return s.dawn;
        }
        if (what == 1) {
            return s.minute;
        }
        if (what == 4) {
            return past.size();
        }
        if (what != 2 && what != 3) {
            return -1;
        }
        int sum = 0;
        for (int c = 0; c < 6; c++) {
            if (s.dressed[c]) {
                sum += what == 2 ? 1 << c : s.patches(c);
            }
        }
        return sum;
    }

    private void remember() {
        past.addLast(s.copy());
        if (past.size() > 10) {
            past.removeFirst();
        }
    }

    private boolean suits(int d, int c) {
        return clients.get(c)[2] == 3 || clients.get(c)[2] == dawns.get(d)[1];
    }

    int cuts(int c, int n) {
        if (!c(c) || n < 1 || n > 12) {
            return -1;
        }
        if (s.dawn == dawns.size() || s.dressed[c] || !suits(s.dawn, c) || s.left[s.dawn] < n
            || s.yards(c) + n > clients.get(c)[1] || s.minute + n > dawns.get(s.dawn)[2]) {
            return -2;
        }
        remember();
        s.has[c][s.dawn] += n;
        s.left[s.dawn] -= n;
        s.minute += n;
        return s.yards(c);
    }

    int sews(int c) {
        if (!c(c)) {
            return -1;
        }
        if (s.dawn == dawns.size() || s.dressed[c] || s.yards(c) < clients.get(c)[1] || s.minute + clients.get(c)[3] > ten) {
            return -2;
        }
        remember();
        s.dressed[c] = true;
        s.minute += clients.get(c)[3];
        return s.minute;
    }

    int dawn() {
        if (s.dawn == dawns.size()) {
            return -2;
        }
        remember();
        int inCellar = 0;
        int gone = 0;
        for (int c = 0; c < clients.size(); c++) {
            if (!s.dressed[c]) {
                if (inCellar + s.yards(c) <= cellar) {
                    inCellar += s.yards(c);
                } else {
                    gone += s.yards(c);
                    s.has[c] = new int[4];
                }
            }
        }
        s.dawn++;
        s.minute = 0;
        return gone;
    }

    int undo() {
        if (past.isEmpty()) {
            return -2;
        }
        s = past.removeLast();
        return past.size();
    }

    // All orders in the order of their numbers; the first of the soonest stays.
    private int[] bestOrder;
    private int bestEnd;

    private void orders(int set, int[] order, int length, int cut, int sewn) {
        if (set == 0) {
            if (sewn < bestEnd) {
                bestEnd = sewn;
                bestOrder = Arrays.copyOf(order, length);
            }
            return;
        }
        for (int c = 0; c < 6; c++) {
            if ((set >> c & 1) == 1) {
                order[length] = c;
                int cutThen = cut + clients.get(c)[1];
                orders(set & ~(1 << c), order, length + 1, cutThen, Math.max(sewn, cutThen) + clients.get(c)[3]);
            }
        }
    }

    private int soonest(int set) {
        bestEnd = Integer.MAX_VALUE;
        orders(set, new int[6], 0, 0, 0);
        return bestEnd;
    }

    int round(int set, int k) {
        if (!set(set) || k < -1 || k > 5) {
            return -1;
        }
        int end = soonest(set);
        return k == -1 ? end : k < bestOrder.length ? bestOrder[k] : -9;
    }

    int can(int d, int set) {
        if (!d(d) || !set(set)) {
            return -1;
        }
        int needs = 0;
        for (int c = 0; c < clients.size(); c++) {
            if ((set >> c & 1) == 1) {
                needs += clients.get(c)[1];
                if (!suits(d, c)) {
                    return 0;
                }
            }
        }
        return needs <= dawns.get(d)[0] && needs <= dawns.get(d)[2] && soonest(set) <= ten ? 1 : 0;
    }

    private int[] bestPlan;
    private int bestTold;

    private void plans(boolean[][] can, int from, int c, int told, int[] sets, int[] plan) {
        if (c == clients.size()) {
            for (int d = from; d < dawns.size(); d++) {
                if (!can[d][sets[d]]) {
                    return;
                }
            }
            if (told > bestTold) {
                bestTold = told;
                bestPlan = plan.clone();
            }
            return;
        }
        if (!s.dressed[c]) {
            for (int d = from; d < dawns.size(); d++) {
                sets[d] |= 1 << c;
                plan[c] = d;
                plans(can, from, c + 1, told + 1, sets, plan);
                sets[d] &= ~(1 << c);
            }
        }
        plan[c] = -9;
        plans(can, from, c + 1, told, sets, plan);
    }

    int plan(int from, int c) {
        if (from < 0 || from > dawns.size() || c < -1 || c >= clients.size()) {
            return -1;
        }
        boolean[][] can = new boolean[4][64];
        for (int d = 0; d < dawns.size(); d++) {
            for (int set = 0; set < 1 << clients.size(); set++) {
                can[d][set] = can(d, set) == 1;
            }
        }
        bestTold = -1;
        plans(can, from, 0, 0, new int[4], new int[6]);
        return c == -1 ? bestTold : bestPlan[c];
    }

    int ways(int c, int p) {
        if (!c(c) || p < 0 || p > 3) {
            return -1;
        }
        int[] most = new int[4];
        for (int d = 0; d < dawns.size(); d++) {
            most[d] = suits(d, c) ? Math.min(12, dawns.get(d)[0]) : 0;
        }
        int ways = 0;
        for (int a = 0; a <= most[0]; a++) {
            for (int b = 0; b <= most[1]; b++) {
                for (int e = 0; e <= most[2]; e++) {
                    int f = clients.get(c)[1] - a - b - e;
                    int used = (a > 0 ? 1 : 0) + (b > 0 ? 1 : 0) + (e > 0 ? 1 : 0) + (f > 0 ? 1 : 0);
                    if (f >= 0 && f <= most[3] && used == p + 1) {
                        ways++;
                    }
                }
            }
        }
        return ways;
    }

    int suns(int x, int k, int what) {
        if (x < 0 || x > 10 || k < 0 || k > 4 || what < 0 || what > 1) {
            return -1;
        }
        int upper = 0;
        for (int set = 0; set < 1 << dawns.size(); set++) {
            int product = 1;
            for (int d = 0; d < dawns.size(); d++) {
                product *= (set >> d & 1) == 1 ? x : 10 - x;
            }
            upper += Integer.bitCount(set) <= k ? product : 0;
        }
        int lower = (int) Math.pow(10, dawns.size());
        for (int f = 10000; f > 1; f--) {
            if (upper % f == 0 && lower % f == 0) {
                upper /= f;
                lower /= f;
            }
        }
        return what == 0 ? upper : lower;
    }

    int found(int m, int is) {
        if (m < 1 || m > 60 || is < 0 || is > 1) {
            return -1;
        }
        if (pieces.size() == 6) {
            return -3;
        }
        pieces.add(new int[] {m, is});
        return pieces.size();
    }

    int forget() {
        int n = pieces.size();
        pieces.clear();
        return n;
    }

    int from() {
        int bits = 0;
        for (int d = 0; d < dawns.size(); d++) {
            boolean agrees = true;
            for (int[] piece : pieces) {
                boolean liftedAhead = dawns.get(d)[2] < piece[0];
                agrees &= liftedAhead == (piece[1] == 0);
            }
            bits += agrees ? 1 << d : 0;
        }
        return bits;
    }

    int look() {
        int best = -9;
        int smallest = 99;
        int bits = from();
        if (Integer.bitCount(bits) < 2) {
            return -9;
        }
        for (int m = 60; m >= 1; m--) {
            int yes = 0;
            int no = 0;
            for (int d = 0; d < dawns.size(); d++) {
                if ((bits >> d & 1) == 1) {
                    yes += dawns.get(d)[2] >= m ? 1 : 0;
                    no += dawns.get(d)[2] < m ? 1 : 0;
                }
            }
            if (Math.max(yes, no) <= smallest) {
                smallest = Math.max(yes, no);
                best = m;
            }
        }
        return best;
    }

    int rate(int kind, int c) {
        if (kind < 0 || kind > 5 || !c(c)) {
            return -1000000;
        }
        int needs = clients.get(c)[1];
        trace += new int[] {1, 11, 101, 1011, 10101, 100001}[kind];
        return new int[] {needs, needs + s.yards(c), needs - clients.get(c)[3], 2 * (needs + s.yards(c)),
            needs - clients.get(c)[3] + c, needs + s.minute}[kind];
    }

    int keep(int image) {
        if (image < 0 || image > 1) {
            return -1;
        }
        images[image] = s.copy();
        return s.dawn;
    }

    int back(int image) {
        if (image < 0 || image > 1) {
            return -1;
        }
        if (images[image] == null) {
            return -2;
        }
        s = images[image].copy();
        past.clear();
        return s.dawn;
    }

    int count(int what) {
        int[] counts = {dawns.size(), clients.size(), ten, cellar, pieces.size(), text.length()};
        return what < 0 || what > 5 ? -1 : counts[what];
    }

    long trace() {
        return trace;
    }
}
