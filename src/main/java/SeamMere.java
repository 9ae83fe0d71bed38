/**
 * A torn mere: pieces, gaps between them, and the dragonflies that sew the gaps
 * up while it is light and the rain does not unpick them.
 */
public final class SeamMere {
    public static final int BAD = -1, NO = -2, FULL = -3, NONE = -4;

    private static final String FIRST_MERE =
        "p6;g0,0,1,3,4;g0,1,2,9,6;g1,2,3,15,3;g2,0,3,20,5;g3,3,4,26,2;g0,4,5,33,7;g0,1,4,12,5;d0,0,3;d1,18,2;d2,30,4;d3,10,5;l14;r0;r0;r0;r1;r0;";

    private static final int MOST_LETTERS = 200;
    private static final int MOST_PIECES = 8;
    private static final int MOST_GAPS = 8;
    private static final int MOST_STITCHERS = 4;
    private static final int MOST_RAINS = 12;
    private static final int MOST_UNDONE = 8;
    private static final int MOST_KEPT = 2;
    private static final int MOST_SEEN = 8;
    private static final int MOST_IN_ROW = 3;

    private static final int LAST_PLACE = 40;
    private static final int DAY = 24;

    // The numbers of a gap, in the order in which a text tells them.
    private static final int GAP_KIND = 0, GAP_ONE = 1, GAP_OTHER = 2, GAP_PLACE = 3, GAP_WIDTH = 4;
    private static final int GAP_NUMBERS = 5;

    // The numbers of a stitcher, in the order in which a text tells them.
    private static final int STITCHER_KIND = 0, STITCHER_PLACE = 1, STITCHER_PACE = 2;
    private static final int STITCHER_NUMBERS = 3;

    private static final int SCAR = 1, WAKE = 2, LETTER = 3;
    private static final int BLUE = 0, RED = 1, TANDEM = 2;
    private static final int LAST_KIND = 3;

    private final int[] text = new int[MOST_LETTERS];
    private int letters = 0;
    private final Reader reader = new Reader();
    private Mere laid = new Mere();
    private Mere spare = new Mere();
    private final Standing now = new Standing();
    private final Standing trial = new Standing();
    private final Shelf past = new Shelf(MOST_UNDONE);
    private final Shelf kept = new Shelf(MOST_KEPT);
    private final Seen seen = new Seen();
    private final Heaps heaps = new Heaps();
    private final RowSearch rowSearch = new RowSearch();
    private final DealSearch dealSearch = new DealSearch();

    public SeamMere() {
        int length = Math.min(FIRST_MERE.length(), MOST_LETTERS);
        for (int i = 0; i < length; i++) {
            setAt(text, i, FIRST_MERE.charAt(i));
        }
        // The first mere is read like any other; its text is not THE TEXT, which stays empty.
        reader.read(text, length, laid);
        beginAnew();
    }

    // ---- meres

    public int write(int letter) {
        if (letter < 32 || letter > 126) {
            return BAD;
        }
        if (letters >= MOST_LETTERS) {
            return FULL;
        }
        setAt(text, letters, letter);
        letters++;
        return letters;
    }

    public int wipe() {
        int were = letters;
        letters = 0;
        return were;
    }

    public int fault() {
        return reader.read(text, letters, spare);
    }

    public int lay() {
        if (reader.read(text, letters, spare) != NONE || spare.gaps < 1 || spare.stitchers < 1) {
            return NO;
        }
        Mere old = laid;
        laid = spare;
        spare = old;
        beginAnew();
        return laid.gaps;
    }

    public int gap(int g, int what) {
        if (!isGap(g) || !isIn(what, 0, 6)) {
            return BAD;
        }
        if (what < GAP_NUMBERS) {
            return laid.ofGap(g, what);
        }
        return what == 5 ? now.stitchesOf(g) : asNumber(now.isClosed(laid, g));
    }

    public int stitcher(int d, int what) {
        if (!isStitcher(d) || !isIn(what, 0, 3)) {
            return BAD;
        }
        if (what == STITCHER_PLACE) {
            return now.placeOf(d);
        }
        return what == 3 ? now.goalOf(d) : laid.ofStitcher(d, what);
    }

    public int sky(int n, int what) {
        if (!isIn(n, 0, 99) || !isIn(what, 0, 1)) {
            return BAD;
        }
        int hour = now.hour + n;
        return asNumber(what == 0 ? laid.isLight(hour) : laid.rainsIn(hour));
    }

    public int together(int a, int b) {
        if (!isPiece(a) || !isPiece(b)) {
            return BAD;
        }
        heaps.form(laid, now.closedBits(laid));
        return asNumber(heaps.areOne(a, b));
    }

    // ---- acts

    public int send(int d, int g) {
        if (!isStitcher(d) || (g != -1 && !isGap(g))) {
            return BAD;
        }
        int goal = g == -1 ? NONE : g;
        int was = now.goalOf(d);
        if (was == goal || (goal != NONE && now.isClosed(laid, goal))) {
            return NO;
        }
        past.add(now);
        now.aim(d, goal);
        return was;
    }

    public int pass(int n) {
        if (!isIn(n, 1, 24)) {
            return BAD;
        }
        past.add(now);
        now.liveThrough(laid, n);
        return now.hour;
    }

    public int frog(int g) {
        if (!isGap(g)) {
            return BAD;
        }
        if (!now.isClosed(laid, g)) {
            return NO;
        }
        past.add(now);
        now.cutOpen(g);
        return Integer.bitCount(now.closedBits(laid));
    }

    public int undo() {
        if (past.held < 1) {
            return NO;
        }
        past.takeLast(now);
        return past.held;
    }

    // ---- what comes

    public int closes(int g) {
        if (!isGap(g)) {
            return BAD;
        }
        trial.copyFrom(now);
        return trial.closeWithin(laid, g, 60);
    }

    public int dusk() {
        trial.copyFrom(now);
        trial.liveThrough(laid, laid.lightLeft(now.hour));
        return trial.closedBits(laid);
    }

    public int order(int d, int n, int k) {
        if (!isStitcher(d) || !isIn(n, 1, 24) || !isIn(k, -1, MOST_IN_ROW)) {
            return BAD;
        }
        rowSearch.start(now, d, n);
        rowSearch.lengthen(laid, 0, 0);
        if (k == -1) {
            return rowSearch.most;
        }
        if (k == MOST_IN_ROW) {
            return rowSearch.fewestHours;
        }
        return k < rowSearch.most ? at(rowSearch.best, k) : NONE;
    }

    public int deal(int n, int d) {
        if (!isIn(n, 1, 24) || (d != -1 && !isStitcher(d))) {
            return BAD;
        }
        dealSearch.find(laid, now, trial, n);
        return d == -1 ? dealSearch.most : at(dealSearch.best, d);
    }

    public int cut(int a, int b) {
        if (!isPiece(a) || !isPiece(b) || a == b) {
            return BAD;
        }
        int seams = now.closedBits(laid);
        int best = NONE;
        int fewest = MOST_GAPS + 1;
        heaps.form(laid, seams);
        if (!heaps.areOne(a, b)) {
            return NONE;
        }
        for (int set = 1; set <= seams; set++) {
            if ((set & ~seams) == 0 && Integer.bitCount(set) < fewest) {
                heaps.form(laid, seams & ~set);
                if (!heaps.areOne(a, b)) {
                    best = set;
                    fewest = Integer.bitCount(set);
                }
            }
        }
        return best;
    }

    public int between(int a, int b) {
        if (!isPiece(a) || !isPiece(b)) {
            return BAD;
        }
        int seams = now.closedBits(laid);
        int goal = 1 << b;
        int reached = 1 << a;
        for (int length = 0; length < MOST_PIECES; length++) {
            if ((reached & goal) != 0) {
                return length;
            }
            reached = laid.oneSeamOn(reached, seams);
        }
        return NONE;
    }

    public int joins(int what) {
        if (!isIn(what, 0, 1)) {
            return BAD;
        }
        heaps.form(laid, now.closedBits(laid));
        int best = NONE;
        int most = NONE;
        for (int g = 0; g < laid.gaps; g++) {
            if (!now.isClosed(laid, g)) {
                int pairs = heaps.pairsJoined(laid.ofGap(g, GAP_ONE), laid.ofGap(g, GAP_OTHER));
                if (pairs > most) {
                    most = pairs;
                    best = g;
                }
            }
        }
        return what == 0 ? best : most;
    }

    // ---- what was seen

    public int see(int a, int b, int is) {
        if (!isPiece(a) || !isPiece(b) || a == b || !isIn(is, 0, 1)) {
            return BAD;
        }
        if (seen.held >= MOST_SEEN) {
            return FULL;
        }
        seen.add(a, b, is);
        return seen.held;
    }

    public int forget() {
        int were = seen.held;
        seen.clear();
        return were;
    }

    public int seamed(int what) {
        if (!isIn(what, 0, 1)) {
            return BAD;
        }
        seen.weigh(laid, heaps);
        return what == 0 ? seen.sets : seen.lowestSet;
    }

    public int tells(int what) {
        if (!isIn(what, 0, 1)) {
            return BAD;
        }
        seen.weigh(laid, heaps);
        seen.choosePair(laid);
        return what == 0 ? seen.bestPair : seen.bestPart;
    }

    // ---- showers, summers

    public int showers(int g, int n, int x, int part) {
        if (!isGap(g) || !isIn(n, 0, 8) || !isIn(x, 0, 10) || !isIn(part, 0, 1)) {
            return BAD;
        }
        int above = 0;
        int below = 0;
        for (int rains = 0; rains < (1 << n); rains++) {
            int weight = weightOf(rains, n, x);
            below += weight;
            if (weight > 0 && isClosedBehind(rains, n, g)) {
                above += weight;
            }
        }
        int common = commonDivisor(above, below);
        if (common < 1) {
            return NONE;
        }
        return (part == 0 ? above : below) / common;
    }

    public int summer(int z, int n, int what) {
        if (!isIn(z, 0, 9999) || !isIn(n, 1, 60) || !isIn(what, 0, 1)) {
            return BAD;
        }
        trial.copyFrom(now);
        for (int k = 0; k < n; k++) {
            actByDraw(drawOf(z, k));
            trial.liveThrough(laid, 1);
        }
        return what == 0 ? Integer.bitCount(trial.closedBits(laid)) : trial.allStitches(laid);
    }

    public int keep() {
        if (kept.held >= MOST_KEPT) {
            return FULL;
        }
        kept.add(now);
        return kept.held;
    }

    public int back() {
        if (kept.held < 1) {
            return NO;
        }
        kept.takeLast(now);
        past.clear();
        return kept.held;
    }

    public int count(int what) {
        switch (what) {
            case 0: return laid.pieces;
            case 1: return laid.gaps;
            case 2: return laid.stitchers;
            case 3: return now.hour;
            case 4: return Integer.bitCount(now.closedBits(laid));
            case 5: return now.allStitches(laid);
            case 6: return now.sentOnes(laid);
            case 7:
                heaps.form(laid, now.closedBits(laid));
                return heaps.howMany(laid);
            case 8: return seen.held;
            case 9: return past.held;
            case 10: return kept.held;
            case 11: return letters;
            default: return BAD;
        }
    }

    // ---- what the calls share

    private void beginAnew() {
        now.begin(laid);
        past.clear();
        kept.clear();
        seen.clear();
    }

    private boolean isGap(int g) {
        return isIn(g, 0, laid.gaps - 1);
    }

    private boolean isStitcher(int d) {
        return isIn(d, 0, laid.stitchers - 1);
    }

    private boolean isPiece(int p) {
        return isIn(p, 0, laid.pieces - 1);
    }

    /** Of the 10 to the n-th ways of n hours, those that rain as the bits of rains say. */
    private static int weightOf(int rains, int n, int x) {
        int weight = 1;
        for (int h = 0; h < n; h++) {
            weight *= isBit(rains, h) ? x : 10 - x;
        }
        return weight;
    }

    private boolean isClosedBehind(int rains, int n, int g) {
        trial.copyFrom(now);
        for (int h = 0; h < n; h++) {
            trial.liveHour(laid, isBit(rains, h));
        }
        return trial.isClosed(laid, g);
    }

    private static int drawOf(int z, int k) {
        // The square of x does not fit an int.
        long x = 7919L * z + 6151L * k + 1;
        return (int) ((x * x) % 65521);
    }

    private void actByDraw(int draw) {
        if (laid.gaps < 1 || laid.stitchers < 1) {
            return;
        }
        int kind = draw % 8;
        if (kind < 4) {
            int g = (draw / 64) % laid.gaps;
            if (!trial.isClosed(laid, g)) {
                trial.aim((draw / 8) % laid.stitchers, g);
            }
        } else if (kind == 4) {
            int g = (draw / 8) % laid.gaps;
            if (trial.isClosed(laid, g)) {
                trial.cutOpen(g);
            }
        }
    }

    private static int commonDivisor(int a, int b) {
        int larger = a;
        int smaller = b;
        // Euclid's steps for numbers up to 10 to the 8th stay far below this bound.
        for (int i = 0; i < 1000 && smaller != 0; i++) {
            int rest = larger % smaller;
            larger = smaller;
            smaller = rest;
        }
        return larger;
    }

    private static boolean isIn(int number, int least, int most) {
        return number >= least && number <= most;
    }

    private static boolean isBit(int bits, int i) {
        return bitOf(bits, i) == 1;
    }

    private static int bitOf(int bits, int i) {
        return (bits >> i) & 1;
    }

    private static int asNumber(boolean is) {
        return is ? 1 : 0;
    }

    // Rows are read and set here, so that no index goes unlooked at.

    private static int at(int[] row, int i) {
        return row != null && i >= 0 && i < row.length ? row[i] : 0;
    }

    private static void setAt(int[] row, int i, int number) {
        if (row != null && i >= 0 && i < row.length) {
            row[i] = number;
        }
    }

    /** What a text tells of a mere; nothing of it changes but by reading another text into it. */
    private static final class Mere {
        int pieces;
        int gaps;
        int stitchers;
        int light;
        int rains;
        private final int[] gapRow = new int[MOST_GAPS * GAP_NUMBERS];
        private final int[] stitcherRow = new int[MOST_STITCHERS * STITCHER_NUMBERS];
        private final int[] rainRow = new int[MOST_RAINS];

        void clear() {
            pieces = 4;
            gaps = 0;
            stitchers = 0;
            light = 12;
            rains = 0;
        }

        void addGap(int[] numbers) {
            for (int i = 0; i < GAP_NUMBERS; i++) {
                setAt(gapRow, gaps * GAP_NUMBERS + i, at(numbers, i));
            }
            gaps++;
        }

        void addStitcher(int[] numbers) {
            for (int i = 0; i < STITCHER_NUMBERS; i++) {
                setAt(stitcherRow, stitchers * STITCHER_NUMBERS + i, at(numbers, i));
            }
            stitchers++;
        }

        void addRain(int number) {
            setAt(rainRow, rains, number);
            rains++;
        }

        int ofGap(int g, int number) {
            int i = g * GAP_NUMBERS + number;
            return i >= 0 && i < gapRow.length ? gapRow[i] : 0;
        }

        int ofStitcher(int d, int number) {
            int i = d * STITCHER_NUMBERS + number;
            return i >= 0 && i < stitcherRow.length ? stitcherRow[i] : 0;
        }

        boolean isLight(int hour) {
            return hour % DAY < light;
        }

        /** Hours until it is light no more first; a mere that is always light has a day of it. */
        int lightLeft(int hour) {
            return light >= DAY ? DAY : Math.max(0, light - hour % DAY);
        }

        boolean rainsIn(int hour) {
            return rains > 0 && at(rainRow, hour % rains) == 1;
        }

        /** How many stitches a stitcher does in an hour at a gap. */
        int sewnInHour(int d, int g) {
            int kind = ofStitcher(d, STITCHER_KIND);
            int gapKind = ofGap(g, GAP_KIND);
            if (gapKind == SCAR) {
                return kind == RED ? 4 : 0;
            }
            switch (kind) {
                case BLUE: return 2;
                case RED: return 1;
                case TANDEM: return gapKind == LETTER ? 0 : 4;
                default: return ofGap(g, GAP_WIDTH) > 6 ? 0 : 1;
            }
        }

        /** The pieces (bits), and those that one of the seams joins to one of them. */
        int oneSeamOn(int piecesFrom, int seams) {
            int reached = piecesFrom;
            for (int g = 0; g < gaps; g++) {
                int ends = (1 << ofGap(g, GAP_ONE)) | (1 << ofGap(g, GAP_OTHER));
                if (isBit(seams, g) && (piecesFrom & ends) != 0) {
                    reached |= ends;
                }
            }
            return reached;
        }
    }

    /** Reads a text into a mere, as far as it is without fault. */
    private static final class Reader {
        private final int[] numbers = new int[GAP_NUMBERS];
        private int amount = 0;
        private boolean onlyPieces = true;

        /** The place of the first fault, or NONE. */
        int read(int[] letterRow, int length, Mere into) {
            into.clear();
            onlyPieces = true;
            int start = 0;
            while (start < length) {
                int behind = readNumbers(letterRow, length, start);
                if (behind <= start || !takeItem(at(letterRow, start), into)) {
                    return start;
                }
                start = behind;
            }
            return NONE;
        }

        /** The place behind the item that starts there, or start if its form is wrong. */
        private int readNumbers(int[] letterRow, int length, int start) {
            int place = start + 1;
            // No item has more numbers than a gap has.
            for (int i = 0; i < GAP_NUMBERS; i++) {
                int first = place;
                int number = 0;
                while (place < length && place < first + 2 && isIn(at(letterRow, place), '0', '9')) {
                    number = number * 10 + at(letterRow, place) - '0';
                    place++;
                }
                int sign = place < length ? at(letterRow, place) : 0;
                if (place == first || (sign != ',' && sign != ';')) {
                    return start;
                }
                setAt(numbers, i, number);
                amount = i + 1;
                place++;
                if (sign == ';') {
                    return place;
                }
            }
            return start;
        }

        private boolean takeItem(int letter, Mere into) {
            if (letter == 'p') {
                return takePieces(into);
            }
            onlyPieces = false;
            switch (letter) {
                case 'g': return takeGap(into);
                case 'd': return takeStitcher(into);
                case 'l': return takeLight(into);
                case 'r': return takeRain(into);
                default: return false;
            }
        }

        private boolean takePieces(Mere into) {
            if (!onlyPieces || amount != 1 || !has(0, 1, MOST_PIECES)) {
                return false;
            }
            into.pieces = at(numbers, 0);
            return true;
        }

        private boolean takeGap(Mere into) {
            if (amount != GAP_NUMBERS || into.gaps >= MOST_GAPS || !has(GAP_KIND, 0, LAST_KIND)
                || !has(GAP_ONE, 0, into.pieces - 1) || !has(GAP_OTHER, 0, into.pieces - 1)
                || at(numbers, GAP_ONE) == at(numbers, GAP_OTHER)
                || !has(GAP_PLACE, 0, LAST_PLACE) || !has(GAP_WIDTH, 1, 20)) {
                return false;
            }
            into.addGap(numbers);
            return true;
        }

        private boolean takeStitcher(Mere into) {
            if (amount != STITCHER_NUMBERS || into.stitchers >= MOST_STITCHERS
                || !has(STITCHER_KIND, 0, LAST_KIND) || !has(STITCHER_PLACE, 0, LAST_PLACE)
                || !has(STITCHER_PACE, 1, 9)) {
                return false;
            }
            into.addStitcher(numbers);
            return true;
        }

        private boolean takeLight(Mere into) {
            if (amount != 1 || !has(0, 1, DAY)) {
                return false;
            }
            into.light = at(numbers, 0);
            return true;
        }

        private boolean takeRain(Mere into) {
            if (amount != 1 || into.rains >= MOST_RAINS || !has(0, 0, 1)) {
                return false;
            }
            into.addRain(at(numbers, 0));
            return true;
        }

        private boolean has(int i, int least, int most) {
            return isIn(at(numbers, i), least, most);
        }
    }

    /** How a mere stands in an hour: all that hours, sending and frogs change. */
    private static final class Standing {
        int hour = 0;
        private final int[] stitches = new int[MOST_GAPS];
        private final int[] goals = new int[MOST_STITCHERS];
        private final int[] places = new int[MOST_STITCHERS];

        void begin(Mere mere) {
            hour = 0;
            for (int g = 0; g < MOST_GAPS; g++) {
                setAt(stitches, g, 0);
            }
            for (int d = 0; d < MOST_STITCHERS; d++) {
                setAt(goals, d, NONE);
                setAt(places, d, mere.ofStitcher(d, STITCHER_PLACE));
            }
        }

        void copyFrom(Standing other) {
            hour = other.hour;
            for (int g = 0; g < MOST_GAPS; g++) {
                setAt(stitches, g, at(other.stitches, g));
            }
            for (int d = 0; d < MOST_STITCHERS; d++) {
                setAt(goals, d, at(other.goals, d));
                setAt(places, d, at(other.places, d));
            }
        }

        int stitchesOf(int g) {
            return at(stitches, g);
        }

        int placeOf(int d) {
            return at(places, d);
        }

        /** The gap to which a stitcher is sent, or NONE. */
        int goalOf(int d) {
            return at(goals, d);
        }

        boolean isClosed(Mere mere, int g) {
            return at(stitches, g) >= mere.ofGap(g, GAP_WIDTH);
        }

        int closedBits(Mere mere) {
            int bits = 0;
            for (int g = 0; g < mere.gaps; g++) {
                if (isClosed(mere, g)) {
                    bits |= 1 << g;
                }
            }
            return bits;
        }

        int allStitches(Mere mere) {
            int all = 0;
            for (int g = 0; g < mere.gaps; g++) {
                all += at(stitches, g);
            }
            return all;
        }

        int sentOnes(Mere mere) {
            int sent = 0;
            for (int d = 0; d < mere.stitchers; d++) {
                sent += asNumber(at(goals, d) != NONE);
            }
            return sent;
        }

        void aim(int d, int goal) {
            setAt(goals, d, goal);
        }

        void callAllOff() {
            for (int d = 0; d < MOST_STITCHERS; d++) {
                setAt(goals, d, NONE);
            }
        }

        void cutOpen(int g) {
            setAt(stitches, g, 0);
        }

        void liveThrough(Mere mere, int hours) {
            for (int h = 0; h < hours; h++) {
                liveHour(mere, mere.rainsIn(hour));
            }
        }

        /** Lives on until a gap is closed: behind how many hours; NONE if behind most it is not. */
        int closeWithin(Mere mere, int g, int most) {
            for (int h = 0; h < most; h++) {
                if (isClosed(mere, g)) {
                    return h;
                }
                liveHour(mere, mere.rainsIn(hour));
            }
            return isClosed(mere, g) ? most : NONE;
        }

        void liveHour(Mere mere, boolean rains) {
            if (mere.isLight(hour)) {
                for (int d = 0; d < mere.stitchers; d++) {
                    flyOrSew(mere, d);
                }
            }
            if (rains) {
                unpick(mere);
            }
            hour++;
        }

        private void flyOrSew(Mere mere, int d) {
            int g = at(goals, d);
            if (g == NONE) {
                return;
            }
            int way = mere.ofGap(g, GAP_PLACE) - at(places, d);
            if (way != 0) {
                int pace = mere.ofStitcher(d, STITCHER_PACE);
                setAt(places, d, at(places, d) + Math.max(-pace, Math.min(pace, way)));
                return;
            }
            int width = mere.ofGap(g, GAP_WIDTH);
            int sewn = Math.min(width, at(stitches, g) + mere.sewnInHour(d, g));
            setAt(stitches, g, sewn);
            if (sewn == width) {
                // At once: those whose turn in this hour is still to come stay where they are.
                callOffFrom(g);
            }
        }

        private void callOffFrom(int g) {
            for (int d = 0; d < MOST_STITCHERS; d++) {
                if (at(goals, d) == g) {
                    setAt(goals, d, NONE);
                }
            }
        }

        private void unpick(Mere mere) {
            for (int g = 0; g < mere.gaps; g++) {
                if (!isClosed(mere, g)) {
                    int lost = mere.ofGap(g, GAP_KIND) == WAKE ? 2 : 1;
                    setAt(stitches, g, Math.max(0, at(stitches, g) - lost));
                }
            }
        }
    }

    /** The latest standings that were put by; the oldest goes when there is no more room. */
    private static final class Shelf {
        int held = 0;
        private int oldest = 0;
        private final Standing[] standings;

        Shelf(int most) {
            standings = new Standing[Math.max(1, most)];
            for (int i = 0; i < standings.length; i++) {
                standings[i] = new Standing();
            }
        }

        void clear() {
            held = 0;
        }

        void add(Standing standing) {
            if (held >= standings.length) {
                oldest = slotOf(1);
                held--;
            }
            Standing free = standingAt(held);
            if (free != null) {
                free.copyFrom(standing);
            }
            held++;
        }

        void takeLast(Standing into) {
            if (held < 1) {
                return;
            }
            held--;
            Standing last = standingAt(held);
            if (last != null) {
                into.copyFrom(last);
            }
        }

        private Standing standingAt(int i) {
            int slot = slotOf(i);
            return slot >= 0 && slot < standings.length ? standings[slot] : null;
        }

        private int slotOf(int i) {
            return standings.length > 0 ? (oldest + i) % standings.length : 0;
        }
    }

    /** What hangs together by a set of seams. */
    private static final class Heaps {
        private final int[] heapOf = new int[MOST_PIECES];

        void form(Mere mere, int seams) {
            for (int p = 0; p < MOST_PIECES; p++) {
                setAt(heapOf, p, p);
            }
            for (int g = 0; g < mere.gaps; g++) {
                if (isBit(seams, g)) {
                    merge(at(heapOf, mere.ofGap(g, GAP_ONE)), at(heapOf, mere.ofGap(g, GAP_OTHER)));
                }
            }
        }

        private void merge(int heap, int other) {
            if (heap == other) {
                return;
            }
            for (int p = 0; p < MOST_PIECES; p++) {
                if (at(heapOf, p) == other) {
                    setAt(heapOf, p, heap);
                }
            }
        }

        boolean areOne(int a, int b) {
            return at(heapOf, a) == at(heapOf, b);
        }

        /** How many pairs would come to hang together, if these two did. */
        int pairsJoined(int a, int b) {
            return areOne(a, b) ? 0 : sizeWith(a) * sizeWith(b);
        }

        private int sizeWith(int piece) {
            int size = 0;
            for (int p = 0; p < MOST_PIECES; p++) {
                size += asNumber(areOne(p, piece));
            }
            return size;
        }

        int howMany(Mere mere) {
            int found = 0;
            for (int p = 0; p < mere.pieces; p++) {
                int lower = 0;
                while (lower < p && !areOne(lower, p)) {
                    lower++;
                }
                found += asNumber(lower == p);
            }
            return found;
        }
    }

    /** What was seen, and which sets of gaps, closed, would look so. */
    private static final class Seen {
        int held = 0;
        int sets = 0;
        int lowestSet = NONE;
        int bestPair = NONE;
        int bestPart = NONE;
        private final int[] ones = new int[MOST_SEEN];
        private final int[] others = new int[MOST_SEEN];
        private final int[] hung = new int[MOST_SEEN];
        private final int[] setsByPair = new int[MOST_PIECES * MOST_PIECES];

        void clear() {
            held = 0;
        }

        void add(int a, int b, int is) {
            setAt(ones, held, a);
            setAt(others, held, b);
            setAt(hung, held, is);
            held++;
        }

        /** Goes through all sets of gaps and counts those that look as was seen, by pair too. */
        void weigh(Mere mere, Heaps heaps) {
            clearWeights();
            int all = 1 << mere.gaps;
            for (int set = 0; set < all; set++) {
                heaps.form(mere, set);
                if (fits(heaps)) {
                    if (sets == 0) {
                        lowestSet = set;
                    }
                    sets++;
                    countPairs(mere, heaps);
                }
            }
        }

        private void clearWeights() {
            sets = 0;
            lowestSet = NONE;
            for (int i = 0; i < setsByPair.length; i++) {
                setsByPair[i] = 0;
            }
        }

        private boolean fits(Heaps heaps) {
            for (int i = 0; i < held; i++) {
                if (asNumber(heaps.areOne(at(ones, i), at(others, i))) != at(hung, i)) {
                    return false;
                }
            }
            return true;
        }

        private void countPairs(Mere mere, Heaps heaps) {
            for (int p = 0; p < mere.pieces; p++) {
                for (int q = p + 1; q < mere.pieces; q++) {
                    if (heaps.areOne(p, q)) {
                        int i = p * MOST_PIECES + q;
                        setAt(setsByPair, i, at(setsByPair, i) + 1);
                    }
                }
            }
        }

        /** Of the sets that were weighed, the pair that parts them most evenly. */
        void choosePair(Mere mere) {
            bestPair = NONE;
            bestPart = NONE;
            if (sets < 1) {
                return;
            }
            for (int p = 0; p < mere.pieces; p++) {
                for (int q = p + 1; q < mere.pieces; q++) {
                    int by = at(setsByPair, p * MOST_PIECES + q);
                    int part = Math.max(by, sets - by);
                    if (!isSeen(p, q) && (bestPair == NONE || part < bestPart)) {
                        bestPair = 10 * p + q;
                        bestPart = part;
                    }
                }
            }
        }

        private boolean isSeen(int p, int q) {
            for (int i = 0; i < held; i++) {
                int one = at(ones, i);
                int other = at(others, i);
                if ((one == p && other == q) || (one == q && other == p)) {
                    return true;
                }
            }
            return false;
        }
    }

    /** Looks for the row of gaps that one stitcher alone closes best. */
    private static final class RowSearch {
        int most = 0;
        int fewestHours = 0;
        final int[] best = new int[MOST_IN_ROW];
        private final int[] row = new int[MOST_IN_ROW];
        // A standing for each length of a row: that behind its last gap.
        private final Standing[] behind = new Standing[MOST_IN_ROW + 1];
        private int sewer = 0;
        private int limit = 0;

        RowSearch() {
            for (int i = 0; i < behind.length; i++) {
                behind[i] = new Standing();
            }
        }

        void start(Standing now, int d, int hours) {
            sewer = d;
            limit = hours;
            most = 0;
            fewestHours = 0;
            Standing first = standingBehind(0);
            if (first != null) {
                first.copyFrom(now);
                first.callAllOff();
            }
        }

        /** Tries each gap as the next one, lowest first, so that of equal rows the first stays. */
        private void lengthen(Mere mere, int length, int hours) {
            Standing from = standingBehind(length);
            if (length >= MOST_IN_ROW || from == null) {
                return;
            }
            for (int g = 0; g < mere.gaps; g++) {
                if (!from.isClosed(mere, g)) {
                    tryNext(mere, from, g, length, hours);
                }
            }
        }

        private void tryNext(Mere mere, Standing from, int g, int length, int hours) {
            Standing next = standingBehind(length + 1);
            if (next == null) {
                return;
            }
            next.copyFrom(from);
            next.aim(sewer, g);
            int took = next.closeWithin(mere, g, limit - hours);
            if (took != NONE) {
                setAt(row, length, g);
                noteIfBetter(length + 1, hours + took);
                lengthen(mere, length + 1, hours + took);
            }
        }

        private void noteIfBetter(int length, int hours) {
            if (length < most || (length == most && hours >= fewestHours)) {
                return;
            }
            most = length;
            fewestHours = hours;
            for (int i = 0; i < length; i++) {
                setAt(best, i, at(row, i));
            }
        }

        private Standing standingBehind(int length) {
            return length >= 0 && length < behind.length ? behind[length] : null;
        }
    }

    /**
     * Looks for the way to send all stitchers by which most gaps are closed. A gap is closed or
     * not by those alone that are sent to it, so each gap is tried once with each set of them.
     */
    private static final class DealSearch {
        int most = 0;
        final int[] best = new int[MOST_STITCHERS];
        private final int[] goals = new int[MOST_STITCHERS];
        private final int[] crews = new int[MOST_GAPS];
        // For each gap the crews (bits) that close it, as bits again.
        private final int[] closers = new int[MOST_GAPS];

        void find(Mere mere, Standing now, Standing trial, int hours) {
            most = -1;
            for (int g = 0; g < mere.gaps; g++) {
                int bits = 0;
                for (int crew = 0; crew < (1 << mere.stitchers); crew++) {
                    trial.copyFrom(now);
                    sendCrew(trial, crew, g);
                    if (trial.closeWithin(mere, g, hours) != NONE) {
                        bits |= 1 << crew;
                    }
                }
                setAt(crews, g, 0);
                setAt(closers, g, bits);
            }
            int closedNow = now.closedBits(mere);
            choose(mere, closedNow, 0, Integer.bitCount(closedNow));
        }

        private static void sendCrew(Standing trial, int crew, int g) {
            for (int d = 0; d < MOST_STITCHERS; d++) {
                trial.aim(d, isBit(crew, d) ? g : NONE);
            }
        }

        /** Goes through the goals of the stitchers from d on, those that come first ahead. */
        private void choose(Mere mere, int closedNow, int d, int closed) {
            if (d >= mere.stitchers || d >= MOST_STITCHERS) {
                noteIfBetter(closed);
                return;
            }
            // A stitcher closes one gap more at most, and only more would count.
            if (closed + mere.stitchers - d <= most) {
                return;
            }
            for (int g = 0; g < mere.gaps; g++) {
                if (!isBit(closedNow, g)) {
                    tryGoal(mere, closedNow, d, closed, g);
                }
            }
            setAt(goals, d, NONE);
            choose(mere, closedNow, d + 1, closed);
        }

        private void tryGoal(Mere mere, int closedNow, int d, int closed, int g) {
            int crew = at(crews, g);
            int larger = crew | (1 << d);
            int ways = at(closers, g);
            setAt(goals, d, g);
            setAt(crews, g, larger);
            choose(mere, closedNow, d + 1, closed - bitOf(ways, crew) + bitOf(ways, larger));
            setAt(crews, g, crew);
        }

        private void noteIfBetter(int closed) {
            if (closed <= most) {
                return;
            }
            most = closed;
            for (int d = 0; d < MOST_STITCHERS; d++) {
                setAt(best, d, at(goals, d));
            }
        }
    }
}
