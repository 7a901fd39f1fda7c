/** Roots of two polynomials in x and y, fenced in by boxes; all numbers are in 64ths. */
public final class RootBoxes {
    public static final int NONE = -1000000001, UNKNOWN = -1000000002, OUTSIDE = -1000000003, NOT = -1000000004, FULL = -1000000005;

    private static final long UNIT = 64L;
    private static final int EDGE = 512;
    private static final int DEGREE = 4;
    private static final int SIDE = DEGREE + 1;
    private static final int MOST_FACTOR = 20;
    private static final int LEAST_AT_FIRST = 4;
    private static final int MOST_LEAST = 64;
    private static final int MOST_OPEN = 64;
    private static final int MOST_ENTRIES = 200;
    private static final int MOST_STEPS = 20;
    private static final int MOST_LETTERS = 200;
    private static final int MOST_CLAUSES = 24;
    private static final int MOST_DIGITS = 3;
    private static final int KEPT = 2;
    private static final long TOLD_AT_MOST = 1000000000L;

    private static final int ENDS = 4;
    private static final int LOW_X = 0;
    private static final int HIGH_X = 1;
    private static final int LOW_Y = 2;
    private static final int HIGH_Y = 3;

    private static final int NO_ZERO_IN_0 = 0;
    private static final int NO_ZERO_IN_1 = 1;
    private static final int NOTHING_SHARED = 2;
    private static final int ONE_ROOT = 3;
    private static final int SMALLER = 4;
    private static final int IN_DOUBT = 5;

    private static final int NO_CLAUSE = -1;
    private static final int CLAUSE_ALL = 0;
    private static final int CLAUSE_F = 1;
    private static final int CLAUSE_G = 2;
    private static final int CLAUSE_LEAST = 3;
    private static final int CLAUSE_BOX = 4;

    private final Text text;
    private final Reader reader;
    private final Judge judge;
    private final State now;
    private final State[] kept;
    private final BoxRow held;

    public RootBoxes() {
        text = new Text();
        reader = new Reader(text);
        judge = new Judge();
        now = new State();
        kept = new State[KEPT];
        held = new BoxRow(1);
    }

    // ---- what is told

    public int write(int letter) {
        if (letter < 0 || letter > 255) {
            return OUTSIDE;
        }
        return text.add(letter) ? text.length() : FULL;
    }

    public int erase() {
        int had = text.length();
        text.clear();
        return had;
    }

    public int fault() {
        return reader.read();
    }

    public int tell() {
        if (reader.read() != NONE) {
            return NOT;
        }
        int clauses = reader.clauseCount();
        for (int k = 0; k < clauses && k < MOST_CLAUSES; k++) {
            doClause(k);
        }
        text.clear();
        return clauses;
    }

    public int put(int polynomial, int i, int j, int c) {
        if (!isPolynomial(polynomial)) {
            return UNKNOWN;
        }
        if (!isPlace(i, j) || c < -MOST_FACTOR || c > MOST_FACTOR) {
            return OUTSIDE;
        }
        int had = now.polynomial(polynomial).at(i, j);
        now.polynomial(polynomial).change(i, j, c);
        return had;
    }

    public int term(int polynomial, int i, int j) {
        if (!isPolynomial(polynomial)) {
            return UNKNOWN;
        }
        return isPlace(i, j) ? now.polynomial(polynomial).at(i, j) : OUTSIDE;
    }

    public int sign(int polynomial, int x, int y) {
        if (!isPolynomial(polynomial)) {
            return UNKNOWN;
        }
        if (!isEnd(x) || !isEnd(y)) {
            return OUTSIDE;
        }
        return now.polynomial(polynomial).signAt(x, y);
    }

    // ---- one box

    public int hold(int a, int b, int c, int d) {
        if (!isSpan(a, b) || !isSpan(c, d)) {
            return OUTSIDE;
        }
        held.clear();
        held.add(a, b, c, d);
        return held.greaterWidth(0);
    }

    public int value(int polynomial, int what) {
        if (!isPolynomial(polynomial)) {
            return UNKNOWN;
        }
        if (what < 0 || what > 1) {
            return OUTSIDE;
        }
        if (held.isEmpty()) {
            return NOT;
        }
        judge.lookAt(held, 0);
        return judge.valueOf(now.polynomial(polynomial)).told(what);
    }

    public int slope(int polynomial, int by, int what) {
        if (!isPolynomial(polynomial)) {
            return UNKNOWN;
        }
        if (by < 0 || by > 1 || what < 0 || what > 1) {
            return OUTSIDE;
        }
        if (held.isEmpty()) {
            return NOT;
        }
        judge.lookAt(held, 0);
        return judge.slopeOf(now.polynomial(polynomial), by == 0).told(what);
    }

    public int fence(int what) {
        if (what < 0 || what > 5) {
            return OUTSIDE;
        }
        if (held.isEmpty()) {
            return NOT;
        }
        judge.lookAt(held, 0);
        boolean there = judge.findFence(now.polynomial(0), now.polynomial(1));
        if (what >= ENDS) {
            return judge.steepness().told(what - ENDS);
        }
        if (!there) {
            return NONE;
        }
        return what < LOW_Y ? judge.fenceX().told(what) : judge.fenceY().told(what - LOW_Y);
    }

    public int verdict() {
        if (held.isEmpty()) {
            return NOT;
        }
        return now.judged(held, 0, judge);
    }

    // ---- the search

    public int begin(int a, int b, int c, int d) {
        if (!isSpan(a, b) || !isSpan(c, d) || a == b || c == d) {
            return OUTSIDE;
        }
        now.beginWith(a, b, c, d);
        return Math.max(b - a, d - c);
    }

    public int least(int n) {
        if (n < 1 || n > MOST_LEAST) {
            return OUTSIDE;
        }
        int had = now.smallest();
        now.changeSmallest(n);
        return had;
    }

    public int step() {
        return now.advance(judge);
    }

    public int steps(int n) {
        if (n < 1 || n > MOST_STEPS) {
            return OUTSIDE;
        }
        int taken = 0;
        while (taken < n && now.advance(judge) >= 0) {
            taken++;
        }
        return taken;
    }

    public int first(int what) {
        if (!isEndNumber(what)) {
            return OUTSIDE;
        }
        BoxRow open = now.openOnes();
        return open.isEmpty() ? NOT : open.end(open.widest(), what);
    }

    public int solved(int box, int what) {
        return endOf(now.solvedOnes(), box, what);
    }

    public int doubtful(int box, int what) {
        return endOf(now.doubtfulOnes(), box, what);
    }

    public int entry(int entry, int what) {
        if (what == ENDS || what == ENDS + 1) {
            if (!now.entries().has(entry)) {
                return UNKNOWN;
            }
            return what == ENDS ? now.verdictGot(entry) : now.judged(now.entries(), entry, judge);
        }
        return endOf(now.entries(), entry, what);
    }

    public int broken() {
        int entries = now.entries().size();
        for (int k = 0; k < entries; k++) {
            if (now.judged(now.entries(), k, judge) != now.verdictGot(k)) {
                return k;
            }
        }
        return NONE;
    }

    public int find(int x, int y) {
        if (!isEnd(x) || !isEnd(y)) {
            return OUTSIDE;
        }
        return (now.openOnes().anyHolds(x, y) ? 1 : 0)
                + (now.solvedOnes().anyHolds(x, y) ? 2 : 0)
                + (now.doubtfulOnes().anyHolds(x, y) ? 4 : 0)
                + (now.isShownRootless(x, y) ? 8 : 0);
    }

    // ---- what is kept

    public int keep(int k) {
        if (k < 0 || k >= kept.length) {
            return OUTSIDE;
        }
        if (kept[k] == null) {
            kept[k] = new State();
        }
        kept[k].copyFrom(now);
        return now.entries().size();
    }

    public int back(int k) {
        if (k < 0 || k >= kept.length) {
            return OUTSIDE;
        }
        if (kept[k] == null) {
            return NOT;
        }
        now.copyFrom(kept[k]);
        return now.entries().size();
    }

    public int count(int what) {
        if (what >= 4 && what <= 9) {
            return now.entriesWith(what - 4);
        }
        switch (what) {
            case 0: return now.openOnes().size();
            case 1: return now.solvedOnes().size();
            case 2: return now.doubtfulOnes().size();
            case 3: return now.entries().size();
            case 10: return now.polynomial(0).termCount();
            case 11: return now.polynomial(1).termCount();
            case 12: return now.smallest();
            case 13: return text.length();
            case 14: return now.openOnes().widthsOfX();
            default: return OUTSIDE;
        }
    }

    private void doClause(int k) {
        int a = reader.number(k, 0);
        int b = reader.number(k, 1);
        int c = reader.number(k, 2);
        switch (reader.clauseKind(k)) {
            case CLAUSE_ALL:
                now.clear();
                held.clear();
                break;
            case CLAUSE_F:
                now.polynomial(0).change(b, c, a);
                break;
            case CLAUSE_G:
                now.polynomial(1).change(b, c, a);
                break;
            case CLAUSE_LEAST:
                now.changeSmallest(a);
                break;
            case CLAUSE_BOX:
                now.beginWith(a, b, c, reader.number(k, 3));
                break;
            default:
                break;
        }
    }

    private static int endOf(BoxRow row, int box, int what) {
        if (!row.has(box)) {
            return UNKNOWN;
        }
        return isEndNumber(what) ? row.end(box, what) : OUTSIDE;
    }

    private static boolean isPolynomial(int polynomial) {
        return polynomial == 0 || polynomial == 1;
    }

    private static boolean isPlace(int i, int j) {
        return i >= 0 && i <= DEGREE && j >= 0 && j <= DEGREE && i + j <= DEGREE;
    }

    private static boolean isEnd(int number) {
        return number >= -EDGE && number <= EDGE;
    }

    private static boolean isSpan(int low, int high) {
        return isEnd(low) && isEnd(high) && low <= high;
    }

    private static boolean isEndNumber(int what) {
        return what >= 0 && what < ENDS;
    }

    /** LOW and HIGH as longs: the products behind a FENCE go far beyond an int. */
    private static final class Span {
        long low;
        long high;

        void become(long newLow, long newHigh) {
            low = newLow;
            high = newHigh;
        }

        void becomeProduct(Span a, Span b) {
            long p = a.low * b.low;
            long q = a.low * b.high;
            long r = a.high * b.low;
            long s = a.high * b.high;
            low = Math.floorDiv(Math.min(Math.min(p, q), Math.min(r, s)), UNIT);
            high = -Math.floorDiv(-Math.max(Math.max(p, q), Math.max(r, s)), UNIT);
        }

        /** Rounds each of the four by itself: rounding keeps their order, so the ends come out alike. */
        void becomeQuotient(Span a, Span by) {
            if (by.low == 0 || by.high == 0) {
                return;
            }
            long p = UNIT * a.low;
            long q = UNIT * a.high;
            long least = Math.min(Math.min(Math.floorDiv(p, by.low), Math.floorDiv(p, by.high)),
                    Math.min(Math.floorDiv(q, by.low), Math.floorDiv(q, by.high)));
            long greatest = Math.max(Math.max(upDiv(p, by.low), upDiv(p, by.high)),
                    Math.max(upDiv(q, by.low), upDiv(q, by.high)));
            become(least, greatest);
        }

        void becomeLess(Span a, Span b) {
            become(a.low - b.high, a.high - b.low);
        }

        void becomeShared(Span a, Span b) {
            become(Math.max(a.low, b.low), Math.min(a.high, b.high));
        }

        void addTimes(Span a, long factor) {
            low += Math.min(a.low * factor, a.high * factor);
            high += Math.max(a.low * factor, a.high * factor);
        }

        boolean hasZero() {
            return low <= 0 && high >= 0;
        }

        /** Only what is SHARED can come out with HIGH below LOW. */
        boolean isNothing() {
            return high < low;
        }

        boolean isStrictlyWithin(Span a) {
            return low > a.low && high < a.high;
        }

        long width() {
            return high - low;
        }

        long middle() {
            return Math.floorDiv(low + high, 2L);
        }

        int told(int what) {
            return (int) Math.max(-TOLD_AT_MOST, Math.min(TOLD_AT_MOST, what == 0 ? low : high));
        }

        private static long upDiv(long number, long by) {
            return by == 0 ? 0 : -Math.floorDiv(-number, by);
        }
    }

    /** For one box: PRODUCT of POWER i of x and POWER j of y at each PLACE. */
    private static final class Grid {
        private final Span[] products = new Span[SIDE * SIDE];

        Grid() {
            for (int k = 0; k < products.length; k++) {
                products[k] = new Span();
            }
        }

        /** POWER 0 is 1, and PRODUCT by 1 changes nothing: so a PLACE with a 0 has the other's POWER. */
        void fill(Span x, Span y) {
            at(0, 0).become(UNIT, UNIT);
            for (int k = 1; k <= DEGREE; k++) {
                at(k, 0).becomeProduct(at(k - 1, 0), x);
                at(0, k).becomeProduct(at(0, k - 1), y);
            }
            for (int i = 1; i < DEGREE; i++) {
                for (int j = 1; i + j <= DEGREE; j++) {
                    at(i, j).becomeProduct(at(i, 0), at(0, j));
                }
            }
        }

        Span at(int i, int j) {
            return products[isPlace(i, j) ? SIDE * i + j : 0];
        }
    }

    private static final class Polynomial {
        private final int[] factors = new int[SIDE * SIDE];

        int at(int i, int j) {
            return isPlace(i, j) ? factors[SIDE * i + j] : 0;
        }

        void change(int i, int j, int c) {
            if (isPlace(i, j)) {
                factors[SIDE * i + j] = c;
            }
        }

        void clear() {
            for (int k = 0; k < factors.length; k++) {
                factors[k] = 0;
            }
        }

        void copyFrom(Polynomial other) {
            for (int k = 0; k < factors.length && k < other.factors.length; k++) {
                factors[k] = other.factors[k];
            }
        }

        int termCount() {
            int terms = 0;
            for (int k = 0; k < factors.length; k++) {
                terms += factors[k] != 0 ? 1 : 0;
            }
            return terms;
        }

        /** All by 64 to the 4th, so that every TERM stays whole. */
        int signAt(int x, int y) {
            long sum = 0;
            for (int i = 0; i <= DEGREE; i++) {
                for (int j = 0; i + j <= DEGREE; j++) {
                    sum += at(i, j) * power(x, i) * power(y, j) * power(UNIT, DEGREE - i - j);
                }
            }
            return sum > 0 ? 1 : sum < 0 ? -1 : 0;
        }

        private static long power(long base, int exponent) {
            long product = 1;
            for (int k = 0; k < exponent; k++) {
                product *= base;
            }
            return product;
        }
    }

    /** Works on one box at a time; its spans are made once and used again by every call. */
    private static final class Judge {
        private final Span boxX = new Span();
        private final Span boxY = new Span();
        private final Grid overBox = new Grid();
        private final Span pointX = new Span();
        private final Span pointY = new Span();
        private final Grid atPoint = new Grid();
        private final Span outcome = new Span();
        private final Span f = new Span();
        private final Span g = new Span();
        private final Span fx = new Span();
        private final Span fy = new Span();
        private final Span gx = new Span();
        private final Span gy = new Span();
        private final Span steepness = new Span();
        private final Span left = new Span();
        private final Span right = new Span();
        private final Span fenceX = new Span();
        private final Span fenceY = new Span();
        private final Span sharedX = new Span();
        private final Span sharedY = new Span();

        void lookAt(BoxRow row, int box) {
            boxX.become(row.end(box, LOW_X), row.end(box, HIGH_X));
            boxY.become(row.end(box, LOW_Y), row.end(box, HIGH_Y));
            overBox.fill(boxX, boxY);
        }

        Span boxX() {
            return boxX;
        }

        Span boxY() {
            return boxY;
        }

        /** D of the document. */
        Span steepness() {
            return steepness;
        }

        Span fenceX() {
            return fenceX;
        }

        Span fenceY() {
            return fenceY;
        }

        Span sharedX() {
            return sharedX;
        }

        Span sharedY() {
            return sharedY;
        }

        Span valueOf(Polynomial p) {
            valueInto(outcome, p, overBox);
            return outcome;
        }

        Span slopeOf(Polynomial p, boolean byX) {
            slopeInto(outcome, p, byX);
            return outcome;
        }

        int judge(Polynomial p, Polynomial q) {
            if (!valueOf(p).hasZero()) {
                return NO_ZERO_IN_0;
            }
            if (!valueOf(q).hasZero()) {
                return NO_ZERO_IN_1;
            }
            if (!findFence(p, q)) {
                return IN_DOUBT;
            }
            sharedX.becomeShared(boxX, fenceX);
            sharedY.becomeShared(boxY, fenceY);
            if (sharedX.isNothing() || sharedY.isNothing()) {
                return NOTHING_SHARED;
            }
            if (fenceX.isStrictlyWithin(boxX) && fenceY.isStrictlyWithin(boxY)) {
                return ONE_ROOT;
            }
            long whole = boxX.width() + boxY.width();
            long part = sharedX.width() + sharedY.width();
            return whole > 0 && 4 * part <= 3 * whole ? SMALLER : IN_DOUBT;
        }

        boolean findFence(Polynomial p, Polynomial q) {
            pointX.become(boxX.middle(), boxX.middle());
            pointY.become(boxY.middle(), boxY.middle());
            slopeInto(fx, p, true);
            slopeInto(fy, p, false);
            slopeInto(gx, q, true);
            slopeInto(gy, q, false);
            crossInto(steepness, fx, gy, fy, gx);
            if (steepness.hasZero()) {
                return false;
            }
            atPoint.fill(pointX, pointY);
            valueInto(f, p, atPoint);
            valueInto(g, q, atPoint);
            crossInto(outcome, gy, f, fy, g);
            fenceX.becomeQuotient(outcome, steepness);
            fenceX.becomeLess(pointX, fenceX);
            crossInto(outcome, fx, g, gx, f);
            fenceY.becomeQuotient(outcome, steepness);
            fenceY.becomeLess(pointY, fenceY);
            return true;
        }

        private static void valueInto(Span sum, Polynomial p, Grid grid) {
            sum.become(0, 0);
            for (int i = 0; i <= DEGREE; i++) {
                for (int j = 0; i + j <= DEGREE; j++) {
                    int factor = p.at(i, j);
                    if (factor != 0) {
                        sum.addTimes(grid.at(i, j), factor);
                    }
                }
            }
        }

        private void slopeInto(Span sum, Polynomial p, boolean byX) {
            sum.become(0, 0);
            for (int i = 0; i < DEGREE; i++) {
                for (int j = 0; i + j < DEGREE; j++) {
                    int factor = byX ? p.at(i + 1, j) * (i + 1) : p.at(i, j + 1) * (j + 1);
                    if (factor != 0) {
                        sum.addTimes(overBox.at(i, j), factor);
                    }
                }
            }
        }

        private void crossInto(Span out, Span a, Span b, Span c, Span d) {
            left.becomeProduct(a, b);
            right.becomeProduct(c, d);
            out.becomeLess(left, right);
        }
    }

    /** A row of boxes, four ends to a box. */
    private static final class BoxRow {
        private final int[] ends;
        private final int most;
        private int size;

        BoxRow(int most) {
            this.most = Math.max(1, most);
            ends = new int[ENDS * this.most];
        }

        int size() {
            return size;
        }

        boolean isEmpty() {
            return size == 0;
        }

        boolean isFull() {
            return size >= most;
        }

        boolean has(int box) {
            return box >= 0 && box < size;
        }

        void clear() {
            size = 0;
        }

        int end(int box, int what) {
            return has(box) && box < most && isEndNumber(what) ? ends[ENDS * box + what] : 0;
        }

        void add(int a, int b, int c, int d) {
            if (size < 0 || size >= most) {
                return;
            }
            int at = ENDS * size;
            ends[at + LOW_X] = a;
            ends[at + HIGH_X] = b;
            ends[at + LOW_Y] = c;
            ends[at + HIGH_Y] = d;
            size++;
        }

        void addSpans(Span x, Span y) {
            add((int) x.low, (int) x.high, (int) y.low, (int) y.high);
        }

        /** Keeps the row in order if it was in order. */
        void addInOrder(Span x, Span y) {
            addSpans(x, y);
            for (int k = size - 1; k > 0 && compare(k, k - 1) < 0; k--) {
                swap(k, k - 1);
            }
        }

        /** The order of the others is free: what is FIRST does not hang on it. */
        void removeUnordered(int box) {
            if (has(box)) {
                swap(box, size - 1);
                size--;
            }
        }

        void copyFrom(BoxRow other) {
            if (other.size < 0 || other.size > most || other.size > other.most) {
                return;
            }
            System.arraycopy(other.ends, 0, ends, 0, ENDS * other.size);
            size = other.size;
        }

        int greaterWidth(int box) {
            return Math.max(end(box, HIGH_X) - end(box, LOW_X), end(box, HIGH_Y) - end(box, LOW_Y));
        }

        int widest() {
            int best = 0;
            for (int k = 1; k < size; k++) {
                int wider = greaterWidth(k) - greaterWidth(best);
                if (wider > 0 || wider == 0 && compare(k, best) < 0) {
                    best = k;
                }
            }
            return best;
        }

        boolean holds(int box, int x, int y) {
            return has(box) && end(box, LOW_X) <= x && x <= end(box, HIGH_X)
                    && end(box, LOW_Y) <= y && y <= end(box, HIGH_Y);
        }

        boolean anyHolds(int x, int y) {
            for (int k = 0; k < size; k++) {
                if (holds(k, x, y)) {
                    return true;
                }
            }
            return false;
        }

        int widthsOfX() {
            int sum = 0;
            for (int k = 0; k < size; k++) {
                sum += end(k, HIGH_X) - end(k, LOW_X);
            }
            return sum;
        }

        private int compare(int p, int q) {
            int order = Integer.compare(end(p, LOW_X), end(q, LOW_X));
            if (order == 0) {
                order = Integer.compare(end(p, LOW_Y), end(q, LOW_Y));
            }
            if (order == 0) {
                order = Integer.compare(end(p, HIGH_X), end(q, HIGH_X));
            }
            return order != 0 ? order : Integer.compare(end(p, HIGH_Y), end(q, HIGH_Y));
        }

        private void swap(int p, int q) {
            if (!has(p) || !has(q) || size > most) {
                return;
            }
            for (int k = 0; k < ENDS; k++) {
                int moved = ends[ENDS * p + k];
                ends[ENDS * p + k] = ends[ENDS * q + k];
                ends[ENDS * q + k] = moved;
            }
        }
    }

    /** All that is kept and gone back to: POLYNOMIALS, LEAST, THE SEARCH. */
    private static final class State {
        private final Polynomial f = new Polynomial();
        private final Polynomial g = new Polynomial();
        private final BoxRow open = new BoxRow(MOST_OPEN);
        private final BoxRow solved = new BoxRow(MOST_ENTRIES);
        private final BoxRow doubtful = new BoxRow(MOST_ENTRIES);
        private final BoxRow entries = new BoxRow(MOST_ENTRIES);
        private final int[] verdicts = new int[MOST_ENTRIES];
        private int smallest = LEAST_AT_FIRST;

        Polynomial polynomial(int number) {
            return number == 0 ? f : g;
        }

        BoxRow openOnes() {
            return open;
        }

        BoxRow solvedOnes() {
            return solved;
        }

        BoxRow doubtfulOnes() {
            return doubtful;
        }

        BoxRow entries() {
            return entries;
        }

        /** LEAST of the document. */
        int smallest() {
            return smallest;
        }

        void changeSmallest(int n) {
            smallest = n;
        }

        void clear() {
            f.clear();
            g.clear();
            smallest = LEAST_AT_FIRST;
            clearSearch();
        }

        void beginWith(int a, int b, int c, int d) {
            clearSearch();
            open.add(a, b, c, d);
        }

        void copyFrom(State other) {
            f.copyFrom(other.f);
            g.copyFrom(other.g);
            smallest = other.smallest;
            open.copyFrom(other.open);
            solved.copyFrom(other.solved);
            doubtful.copyFrom(other.doubtful);
            entries.copyFrom(other.entries);
            System.arraycopy(other.verdicts, 0, verdicts, 0, MOST_ENTRIES);
        }

        int judged(BoxRow row, int box, Judge judge) {
            judge.lookAt(row, box);
            return judge.judge(f, g);
        }

        int verdictGot(int entry) {
            return entry >= 0 && entry < verdicts.length ? verdicts[entry] : 0;
        }

        int entriesWith(int verdict) {
            int sum = 0;
            for (int k = 0; k < entries.size(); k++) {
                sum += verdictGot(k) == verdict ? 1 : 0;
            }
            return sum;
        }

        boolean isShownRootless(int x, int y) {
            for (int k = 0; k < entries.size(); k++) {
                if (verdictGot(k) <= NOTHING_SHARED && entries.holds(k, x, y)) {
                    return true;
                }
            }
            return false;
        }

        /** A STEP: the VERDICT, or why it is refused (below 0). */
        int advance(Judge judge) {
            if (open.isEmpty()) {
                return NOT;
            }
            if (entries.isFull()) {
                return FULL;
            }
            int box = open.widest();
            judge.lookAt(open, box);
            int verdict = judge.judge(f, g);
            boolean parted = verdict == IN_DOUBT && open.greaterWidth(box) > smallest;
            if (parted && open.isFull()) {
                return FULL;
            }
            open.removeUnordered(box);
            addEntry(verdict, judge);
            if (parted) {
                part(judge.boxX(), judge.boxY());
            } else {
                settle(verdict, judge);
            }
            return verdict;
        }

        private void clearSearch() {
            open.clear();
            solved.clear();
            doubtful.clear();
            entries.clear();
        }

        private void addEntry(int verdict, Judge judge) {
            int entry = entries.size();
            if (entry >= 0 && entry < verdicts.length) {
                verdicts[entry] = verdict;
                entries.addSpans(judge.boxX(), judge.boxY());
            }
        }

        private void settle(int verdict, Judge judge) {
            if (verdict == ONE_ROOT) {
                solved.addInOrder(judge.fenceX(), judge.fenceY());
            } else if (verdict == SMALLER) {
                open.addSpans(judge.sharedX(), judge.sharedY());
            } else if (verdict == IN_DOUBT) {
                doubtful.addSpans(judge.boxX(), judge.boxY());
            }
        }

        private void part(Span x, Span y) {
            if (x.width() >= y.width()) {
                int middle = (int) x.middle();
                open.add((int) x.low, middle, (int) y.low, (int) y.high);
                open.add(middle, (int) x.high, (int) y.low, (int) y.high);
            } else {
                int middle = (int) y.middle();
                open.add((int) x.low, (int) x.high, (int) y.low, middle);
                open.add((int) x.low, (int) x.high, middle, (int) y.high);
            }
        }
    }

    private static final class Text {
        private final int[] letters = new int[MOST_LETTERS];
        private int length;

        int length() {
            return length;
        }

        int letter(int at) {
            return at >= 0 && at < length && at < letters.length ? letters[at] : NONE;
        }

        boolean add(int letter) {
            if (length < 0 || length >= letters.length) {
                return false;
            }
            letters[length] = letter;
            length++;
            return true;
        }

        void clear() {
            length = 0;
        }
    }

    /** Reads THE TEXT token by token to its end or its first FAULT, and notes the CLAUSES. */
    private static final class Reader {
        private static final int TOKEN_END = 0;
        private static final int TOKEN_WORD = 1;
        private static final int TOKEN_NUMBER = 2;
        private static final int TOKEN_OTHER = 3;

        private final Text text;
        private final int[] kinds = new int[MOST_CLAUSES];
        private final int[] numbers = new int[ENDS * MOST_CLAUSES];
        private int clauseCount;
        private int token;
        private int start;
        private int end;

        Reader(Text text) {
            this.text = text;
        }

        int clauseCount() {
            return clauseCount;
        }

        int clauseKind(int clause) {
            return clause >= 0 && clause < kinds.length ? kinds[clause] : NO_CLAUSE;
        }

        int number(int clause, int which) {
            boolean there = clause >= 0 && clause < MOST_CLAUSES && isEndNumber(which);
            return there ? numbers[ENDS * clause + which] : 0;
        }

        /** The place of the FAULT, or NONE: then the CLAUSES are noted. */
        int read() {
            clauseCount = 0;
            end = 0;
            nextToken();
            while (clauseCount < MOST_CLAUSES) {
                if (!readClause()) {
                    return start;
                }
                clauseCount++;
                if (token == TOKEN_END) {
                    return NONE;
                }
                if (!isSign(';')) {
                    return start;
                }
                // a ; behind the last clause that may be is itself the fault: start must stay on it
                if (clauseCount < MOST_CLAUSES) {
                    nextToken();
                }
            }
            return start;
        }

        private boolean readClause() {
            int kind = kindOfWord();
            if (kind == NO_CLAUSE || clauseCount < 0 || clauseCount >= kinds.length) {
                return false;
            }
            kinds[clauseCount] = kind;
            nextToken();
            int wanted = numbersOf(kind);
            for (int k = 0; k < wanted; k++) {
                if (!readNumber(kind, k)) {
                    return false;
                }
            }
            return true;
        }

        private int kindOfWord() {
            if (token != TOKEN_WORD) {
                return NO_CLAUSE;
            }
            return isWord("all") ? CLAUSE_ALL
                    : isWord("f") ? CLAUSE_F
                    : isWord("g") ? CLAUSE_G
                    : isWord("least") ? CLAUSE_LEAST
                    : isWord("box") ? CLAUSE_BOX : NO_CLAUSE;
        }

        private static int numbersOf(int kind) {
            switch (kind) {
                case CLAUSE_F:
                case CLAUSE_G: return 3;
                case CLAUSE_LEAST: return 1;
                case CLAUSE_BOX: return 4;
                default: return 0;
            }
        }

        private boolean readNumber(int kind, int which) {
            boolean maySign = kind == CLAUSE_BOX || which == 0 && kind != CLAUSE_LEAST;
            boolean below = maySign && isSign('-');
            if (below) {
                nextToken();
            }
            if (token != TOKEN_NUMBER || end - start > MOST_DIGITS) {
                return false;
            }
            int number = below ? -digitsValue() : digitsValue();
            int at = ENDS * clauseCount + which;
            if (!fits(kind, which, number) || at < 0 || at >= numbers.length) {
                return false;
            }
            numbers[at] = number;
            nextToken();
            return true;
        }

        private boolean fits(int kind, int which, int number) {
            if (kind == CLAUSE_LEAST) {
                return number >= 1 && number <= MOST_LEAST;
            }
            if (kind == CLAUSE_BOX) {
                boolean isHigh = which == HIGH_X || which == HIGH_Y;
                return isEnd(number) && (!isHigh || number > number(clauseCount, which - 1));
            }
            if (which == 0) {
                return number >= -MOST_FACTOR && number <= MOST_FACTOR;
            }
            return isPlace(which == 1 ? 0 : number(clauseCount, 1), number);
        }

        private int digitsValue() {
            int sum = 0;
            for (int k = start; k < end; k++) {
                sum = 10 * sum + text.letter(k) - '0';
            }
            return sum;
        }

        private boolean isWord(String word) {
            if (end - start != word.length()) {
                return false;
            }
            for (int k = 0; k < word.length(); k++) {
                if (text.letter(start + k) != word.charAt(k)) {
                    return false;
                }
            }
            return true;
        }

        private boolean isSign(char sign) {
            return token == TOKEN_OTHER && text.letter(start) == sign;
        }

        private void nextToken() {
            int length = text.length();
            start = end;
            while (start < length && text.letter(start) == ' ') {
                start++;
            }
            end = start;
            token = tokenAt(start);
            if (token == TOKEN_OTHER) {
                end++;
                return;
            }
            while (end < length && tokenAt(end) == token) {
                end++;
            }
        }

        private int tokenAt(int at) {
            if (at >= text.length()) {
                return TOKEN_END;
            }
            int letter = text.letter(at);
            if (letter >= 'a' && letter <= 'z') {
                return TOKEN_WORD;
            }
            return letter >= '0' && letter <= '9' ? TOKEN_NUMBER : TOKEN_OTHER;
        }
    }
}
