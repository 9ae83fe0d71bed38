import java.math.BigInteger;
import java.util.ArrayDeque;
import java.util.ArrayList;
import java.util.Arrays;
import java.util.List;
import java.util.regex.Matcher;
import java.util.regex.Pattern;

/**
 * The document once more, as plainly and slowly as can be, to compare SeamMere with. It looks
 * through all ways where the document says "of all ways", and shares no code with the class.
 */
public final class PlainMere {
    private static final int BAD = -1, NO = -2, FULL = -3, NONE = -4;

    private static final class Laid {
        int pieces = 4;
        List<int[]> gaps = new ArrayList<>();
        List<int[]> stitchers = new ArrayList<>();
        int light = 12;
        List<Integer> rain = new ArrayList<>();
        int fault = NONE;
    }

    private static final class State {
        int hour;
        int[] sewn;
        int[] place;
        int[] goal;

        State copy() {
            State s = new State();
            s.hour = hour;
            s.sewn = sewn.clone();
            s.place = place.clone();
            s.goal = goal.clone();
            return s;
        }
    }

    private String text = "";
    private Laid laid;
    private State now;
    private final ArrayDeque<State> past = new ArrayDeque<>();
    private final ArrayDeque<State> kept = new ArrayDeque<>();
    private final List<int[]> seen = new ArrayList<>();

    public PlainMere() {
        laid = parse("p6;g0,0,1,3,4;g0,1,2,9,6;g1,2,3,15,3;g2,0,3,20,5;g3,3,4,26,2;g0,4,5,33,7;"
            + "g0,1,4,12,5;d0,0,3;d1,18,2;d2,30,4;d3,10,5;l14;r0;r0;r0;r1;r0;");
        start();
    }

    private void start() {
        now = new State();
        now.sewn = new int[laid.gaps.size()];
        now.place = new int[laid.stitchers.size()];
        now.goal = new int[laid.stitchers.size()];
        Arrays.fill(now.goal, NONE);
        for (int d = 0; d < now.place.length; d++) {
            now.place[d] = laid.stitchers.get(d)[1];
        }
        past.clear();
        kept.clear();
        seen.clear();
    }

    private static Laid parse(String text) {
        Laid l = new Laid();
        Matcher m = Pattern.compile("([pgdlr])([0-9]{1,2}(?:,[0-9]{1,2})*);").matcher(text);
        int at = 0;
        boolean other = false;
        while (at < text.length()) {
            m.region(at, text.length());
            if (!m.lookingAt()) {
                l.fault = at;
                return l;
            }
            int[] n = Arrays.stream(m.group(2).split(",")).mapToInt(Integer::parseInt).toArray();
            if (!take(l, m.group(1).charAt(0), n, other)) {
                l.fault = at;
                return l;
            }
            other |= m.group(1).charAt(0) != 'p';
            at = m.end();
        }
        return l;
    }

    private static boolean take(Laid l, char letter, int[] n, boolean other) {
        int[] least;
        int[] most;
        switch (letter) {
            case 'p': least = new int[] {1}; most = new int[] {8}; break;
            case 'g': least = new int[] {0, 0, 0, 0, 1}; most = new int[] {3, l.pieces - 1, l.pieces - 1, 40, 20}; break;
            case 'd': least = new int[] {0, 0, 1}; most = new int[] {3, 40, 9}; break;
            case 'l': least = new int[] {1}; most = new int[] {24}; break;
            default: least = new int[] {0}; most = new int[] {1}; break;
        }
        if (n.length != least.length) {
            return false;
        }
        for (int i = 0; i < n.length; i++) {
            if (n[i] < least[i] || n[i] > most[i]) {
                return false;
            }
        }
        switch (letter) {
            case 'p': l.pieces = n[0]; return !other;
            case 'g': l.gaps.add(n); return n[1] != n[2] && l.gaps.size() <= 8;
            case 'd': l.stitchers.add(n); return l.stitchers.size() <= 4;
            case 'l': l.light = n[0]; return true;
            default: l.rain.add(n[0]); return l.rain.size() <= 12;
        }
    }

    private int gaps() {
        return laid.gaps.size();
    }

    private int stitchers() {
        return laid.stitchers.size();
    }

    private boolean noGap(int g) {
        return g < 0 || g >= gaps();
    }

    private boolean noStitcher(int d) {
        return d < 0 || d >= stitchers();
    }

    private boolean noPiece(int p) {
        return p < 0 || p >= laid.pieces;
    }

    private boolean light(int hour) {
        return hour % 24 < laid.light;
    }

    private boolean rain(int hour) {
        return !laid.rain.isEmpty() && laid.rain.get(hour % laid.rain.size()) == 1;
    }

    private boolean closed(State s, int g) {
        return s.sewn[g] == laid.gaps.get(g)[4];
    }

    private int closedSet(State s) {
        int set = 0;
        for (int g = 0; g < gaps(); g++) {
            if (closed(s, g)) {
                set += 1 << g;
            }
        }
        return set;
    }

    /** Stitches by a stitcher's kind (rows) and a gap's kind; of YOUNG ones at narrow gaps. */
    private static final int[][] SEWS = {{2, 0, 2, 2}, {1, 4, 1, 1}, {4, 0, 4, 0}, {1, 0, 1, 1}};

    private void hour(State s, boolean rains) {
        for (int d = 0; d < stitchers() && light(s.hour); d++) {
            if (s.goal[d] == NONE) {
                continue;
            }
            int[] gap = laid.gaps.get(s.goal[d]);
            int[] who = laid.stitchers.get(d);
            if (s.place[d] != gap[3]) {
                for (int step = 0; step < who[2] && s.place[d] != gap[3]; step++) {
                    s.place[d] += s.place[d] < gap[3] ? 1 : -1;
                }
                continue;
            }
            int sews = who[0] == 3 && gap[4] > 6 ? 0 : SEWS[who[0]][gap[0]];
            for (int i = 0; i < sews && s.sewn[s.goal[d]] < gap[4]; i++) {
                s.sewn[s.goal[d]]++;
            }
            if (s.sewn[s.goal[d]] == gap[4]) {
                int g = s.goal[d];
                for (int e = 0; e < stitchers(); e++) {
                    if (s.goal[e] == g) {
                        s.goal[e] = NONE;
                    }
                }
            }
        }
        for (int g = 0; g < gaps() && rains; g++) {
            for (int i = 0; i < (laid.gaps.get(g)[0] == 2 ? 2 : 1); i++) {
                if (!closed(s, g) && s.sewn[g] > 0) {
                    s.sewn[g]--;
                }
            }
        }
        s.hour++;
    }

    private void hour(State s) {
        hour(s, rain(s.hour));
    }

    /** Of how many seams of the set the shortest row is; -1 if there is none. */
    private int way(int set, int a, int b) {
        int[] far = new int[laid.pieces];
        Arrays.fill(far, -1);
        far[a] = 0;
        ArrayDeque<Integer> next = new ArrayDeque<>();
        next.add(a);
        while (!next.isEmpty()) {
            int p = next.remove();
            for (int g = 0; g < gaps(); g++) {
                int one = laid.gaps.get(g)[1];
                int other = laid.gaps.get(g)[2];
                int q = one == p ? other : other == p ? one : -1;
                if ((set >> g & 1) == 1 && q >= 0 && far[q] < 0) {
                    far[q] = far[p] + 1;
                    next.add(q);
                }
            }
        }
        return far[b];
    }

    private int pairs(int set) {
        int pairs = 0;
        for (int p = 0; p < laid.pieces; p++) {
            for (int q = 0; q < p; q++) {
                pairs += way(set, p, q) >= 0 ? 1 : 0;
            }
        }
        return pairs;
    }

    private void remember() {
        past.addLast(now.copy());
        if (past.size() > 8) {
            past.removeFirst();
        }
    }

    public int write(int letter) {
        if (letter < 32 || letter > 126) {
            return BAD;
        }
        if (text.length() == 200) {
            return FULL;
        }
        text += (char) letter;
        return text.length();
    }

    public int wipe() {
        int was = text.length();
        text = "";
        return was;
    }

    public int fault() {
        return parse(text).fault;
    }

    public int lay() {
        Laid l = parse(text);
        if (l.fault != NONE || l.gaps.isEmpty() || l.stitchers.isEmpty()) {
            return NO;
        }
        laid = l;
        start();
        return gaps();
    }

    public int gap(int g, int what) {
        if (noGap(g) || what < 0 || what > 6) {
            return BAD;
        }
        return what < 5 ? laid.gaps.get(g)[what] : what == 5 ? now.sewn[g] : closed(now, g) ? 1 : 0;
    }

    public int stitcher(int d, int what) {
        if (noStitcher(d) || what < 0 || what > 3) {
            return BAD;
        }
        return new int[] {laid.stitchers.get(d)[0], now.place[d], laid.stitchers.get(d)[2], now.goal[d]}[what];
    }

    public int sky(int n, int what) {
        if (n < 0 || n > 99 || what < 0 || what > 1) {
            return BAD;
        }
        return (what == 0 ? light(now.hour + n) : rain(now.hour + n)) ? 1 : 0;
    }

    public int together(int a, int b) {
        return noPiece(a) || noPiece(b) ? BAD : way(closedSet(now), a, b) >= 0 ? 1 : 0;
    }

    public int send(int d, int g) {
        if (noStitcher(d) || g != -1 && noGap(g)) {
            return BAD;
        }
        int goal = g < 0 ? NONE : g;
        if (g >= 0 && closed(now, g) || now.goal[d] == goal) {
            return NO;
        }
        remember();
        int was = now.goal[d];
        now.goal[d] = goal;
        return was;
    }

    public int pass(int n) {
        if (n < 1 || n > 24) {
            return BAD;
        }
        remember();
        for (int i = 0; i < n; i++) {
            hour(now);
        }
        return now.hour;
    }

    public int frog(int g) {
        if (noGap(g)) {
            return BAD;
        }
        if (!closed(now, g)) {
            return NO;
        }
        remember();
        now.sewn[g] = 0;
        return Integer.bitCount(closedSet(now));
    }

    public int undo() {
        if (past.isEmpty()) {
            return NO;
        }
        now = past.removeLast();
        return past.size();
    }

    public int closes(int g) {
        if (noGap(g)) {
            return BAD;
        }
        State s = now.copy();
        for (int h = 0; h <= 60; h++) {
            if (closed(s, g)) {
                return h;
            }
            hour(s);
        }
        return NONE;
    }

    public int dusk() {
        State s = now.copy();
        for (int h = 0; h < 24 && light(s.hour); h++) {
            hour(s);
        }
        return closedSet(s);
    }

    /** The hours of a row, or -1 if it is not all closed behind n hours. */
    private int hoursOf(int d, int n, List<Integer> row) {
        State s = now.copy();
        Arrays.fill(s.goal, NONE);
        int hours = 0;
        for (int g : row) {
            s.goal[d] = g;
            while (!closed(s, g)) {
                hour(s);
                hours++;
                if (hours > n) {
                    return -1;
                }
            }
        }
        return hours;
    }

    private void rows(List<List<Integer>> all, List<Integer> row) {
        all.add(row);
        for (int g = 0; g < gaps() && row.size() < 3; g++) {
            if (!closed(now, g) && !row.contains(g)) {
                List<Integer> longer = new ArrayList<>(row);
                longer.add(g);
                rows(all, longer);
            }
        }
    }

    public int order(int d, int n, int k) {
        if (noStitcher(d) || n < 1 || n > 24 || k < -1 || k > 3) {
            return BAD;
        }
        List<List<Integer>> all = new ArrayList<>();
        rows(all, new ArrayList<>());
        List<Integer> best = new ArrayList<>();
        int bestHours = 0;
        for (List<Integer> row : all) {
            int hours = hoursOf(d, n, row);
            if (hours < 0 || row.size() < best.size()) {
                continue;
            }
            boolean better = row.size() > best.size() || hours < bestHours
                || hours == bestHours && Arrays.compare(row.toArray(new Integer[0]), best.toArray(new Integer[0])) < 0;
            if (better) {
                best = row;
                bestHours = hours;
            }
        }
        return k == -1 ? best.size() : k == 3 ? bestHours : k < best.size() ? best.get(k) : NONE;
    }

    public int deal(int n, int d) {
        if (n < 1 || n > 24 || d != -1 && noStitcher(d)) {
            return BAD;
        }
        int most = -1;
        int[] best = null;
        int[] way = new int[stitchers()];
        boolean more = true;
        while (more) {
            State s = now.copy();
            boolean can = true;
            for (int e = 0; e < way.length; e++) {
                s.goal[e] = way[e] == gaps() ? NONE : way[e];
                can &= way[e] == gaps() || !closed(now, way[e]);
            }
            if (can) {
                int[] goals = s.goal.clone();
                for (int h = 0; h < n; h++) {
                    hour(s);
                }
                int closed = Integer.bitCount(closedSet(s));
                if (closed > most) {
                    most = closed;
                    best = goals;
                }
            }
            int e = way.length - 1;
            while (e >= 0 && way[e] == gaps()) {
                way[e--] = 0;
            }
            more = e >= 0;
            if (more) {
                way[e]++;
            }
        }
        return d == -1 ? most : best[d];
    }

    public int cut(int a, int b) {
        if (noPiece(a) || noPiece(b) || a == b) {
            return BAD;
        }
        int seams = closedSet(now);
        if (way(seams, a, b) < 0) {
            return NONE;
        }
        for (int size = 0; size <= 8; size++) {
            for (int set = 0; set < 256; set++) {
                if (Integer.bitCount(set) == size && (seams & set) == set && way(seams - set, a, b) < 0) {
                    return set;
                }
            }
        }
        throw new IllegalStateException();
    }

    public int between(int a, int b) {
        if (noPiece(a) || noPiece(b)) {
            return BAD;
        }
        int way = way(closedSet(now), a, b);
        return way < 0 ? NONE : way;
    }

    public int joins(int what) {
        if (what != 0 && what != 1) {
            return BAD;
        }
        int which = NONE;
        int most = NONE;
        int seams = closedSet(now);
        for (int g = gaps() - 1; g >= 0; g--) {
            int more = pairs(seams | 1 << g) - pairs(seams);
            if (!closed(now, g) && more >= most) {
                which = g;
                most = more;
            }
        }
        return what == 0 ? which : most;
    }

    public int see(int a, int b, int is) {
        if (noPiece(a) || noPiece(b) || a == b || is != 0 && is != 1) {
            return BAD;
        }
        if (seen.size() == 8) {
            return FULL;
        }
        seen.add(new int[] {a, b, is});
        return seen.size();
    }

    public int forget() {
        int was = seen.size();
        seen.clear();
        return was;
    }

    private List<Integer> sets() {
        List<Integer> sets = new ArrayList<>();
        for (int set = 0; set < 1 << gaps(); set++) {
            boolean fits = true;
            for (int[] s : seen) {
                fits &= way(set, s[0], s[1]) >= 0 == (s[2] == 1);
            }
            if (fits) {
                sets.add(set);
            }
        }
        return sets;
    }

    public int seamed(int what) {
        if (what != 0 && what != 1) {
            return BAD;
        }
        List<Integer> sets = sets();
        return what == 0 ? sets.size() : sets.isEmpty() ? NONE : sets.get(0);
    }

    public int tells(int what) {
        if (what != 0 && what != 1) {
            return BAD;
        }
        List<Integer> sets = sets();
        int pair = NONE;
        int part = NONE;
        for (int code = 0; code < 80 && !sets.isEmpty(); code++) {
            int a = code / 10;
            int b = code % 10;
            if (a >= b || noPiece(b) || seen.stream().anyMatch(s -> Math.min(s[0], s[1]) == a && Math.max(s[0], s[1]) == b)) {
                continue;
            }
            int by = (int) sets.stream().filter(set -> way(set, a, b) >= 0).count();
            int greater = Math.max(by, sets.size() - by);
            if (pair == NONE || greater < part) {
                pair = code;
                part = greater;
            }
        }
        return what == 0 ? pair : part;
    }

    private BigInteger chance(State s, int g, int n, int x) {
        if (n == 0) {
            return closed(s, g) ? BigInteger.ONE : BigInteger.ZERO;
        }
        State wet = s.copy();
        State dry = s.copy();
        hour(wet, true);
        hour(dry, false);
        return chance(wet, g, n - 1, x).multiply(BigInteger.valueOf(x))
            .add(chance(dry, g, n - 1, x).multiply(BigInteger.valueOf(10 - x)));
    }

    public int showers(int g, int n, int x, int part) {
        if (noGap(g) || n < 0 || n > 8 || x < 0 || x > 10 || part < 0 || part > 1) {
            return BAD;
        }
        BigInteger above = chance(now, g, n, x);
        BigInteger below = BigInteger.TEN.pow(n);
        BigInteger common = above.gcd(below);
        return (part == 0 ? above : below).divide(common).intValueExact();
    }

    public int summer(int z, int n, int what) {
        if (z < 0 || z > 9999 || n < 1 || n > 60 || what < 0 || what > 1) {
            return BAD;
        }
        State s = now.copy();
        for (int k = 0; k < n; k++) {
            BigInteger x = BigInteger.valueOf(7919L * z).add(BigInteger.valueOf(6151L * k)).add(BigInteger.ONE);
            int draw = x.modPow(BigInteger.TWO, BigInteger.valueOf(65521)).intValue();
            int far = draw / 64 % gaps();
            int near = draw / 8 % gaps();
            if (draw % 8 <= 3 && !closed(s, far)) {
                s.goal[draw / 8 % stitchers()] = far;
            }
            if (draw % 8 == 4 && closed(s, near)) {
                s.sewn[near] = 0;
            }
            hour(s);
        }
        return what == 0 ? Integer.bitCount(closedSet(s)) : Arrays.stream(s.sewn).sum();
    }

    public int keep() {
        if (kept.size() == 2) {
            return FULL;
        }
        kept.addLast(now.copy());
        return kept.size();
    }

    public int back() {
        if (kept.isEmpty()) {
            return NO;
        }
        now = kept.removeLast();
        past.clear();
        return kept.size();
    }

    private int heaps() {
        int heaps = 0;
        for (int p = 0; p < laid.pieces; p++) {
            boolean lowest = true;
            for (int q = 0; q < p; q++) {
                lowest &= way(closedSet(now), p, q) < 0;
            }
            heaps += lowest ? 1 : 0;
        }
        return heaps;
    }

    public int count(int what) {
        if (what < 0 || what > 11) {
            return BAD;
        }
        int sent = (int) Arrays.stream(now.goal).filter(g -> g != NONE).count();
        return new int[] {laid.pieces, gaps(), stitchers(), now.hour, Integer.bitCount(closedSet(now)),
            Arrays.stream(now.sewn).sum(), sent, heaps(), seen.size(), past.size(), kept.size(), text.length()}[what];
    }
}
