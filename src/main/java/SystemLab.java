/**
 * A laboratory for linear systems: matrices of doubles in five forms, their factors, solutions,
 * residuals, exact answers, proved bounds, orders of lesser width, and matrices as bytes.
 *
 * Every number is held and worked on as the bits of its double. All room that the calls need is
 * made with the object and used again by each call.
 */
public final class SystemLab {
    public static final int NONE = -1;

    private static final int MOST_MATRICES = 24;
    private static final int MOST_FACTORS = 12;
    private static final int MOST_VECTORS = 24;
    private static final int MOST_ROWS = 8;
    private static final int MOST_ROUNDS = 20;
    private static final int LATTICE_DEPTH = 60;

    private final Matrix[] matrices = new Matrix[MOST_MATRICES];
    private final Factor[] factors = new Factor[MOST_FACTORS];
    private final Vector[] vectors = new Vector[MOST_VECTORS];
    private final Residuals residuals = new Residuals();
    private final Elimination elimination = new Elimination();
    private final Ordering ordering = new Ordering();
    private final Tape tape = new Tape();
    private final long[] unit = new long[MOST_ROWS];
    private final long[] answer = new long[MOST_ROWS];

    public SystemLab() {
        for (int m = 0; m < MOST_MATRICES; m++) {
            matrices[m] = new Matrix();
        }
        for (int f = 0; f < MOST_FACTORS; f++) {
            factors[f] = new Factor();
        }
        for (int v = 0; v < MOST_VECTORS; v++) {
            vectors[v] = new Vector();
        }
    }

    // ---- matrices

    public int matrix(int form, int rows, int columns, int a, int b) {
        int free = freeMatrix();
        if (free == NONE || !Matrix.sound(form, rows, columns, a, b)) {
            return NONE;
        }
        matrices[free].begin(form, rows, columns, a, b);
        matrices[free].there = true;
        return free;
    }

    public boolean drop(int m) {
        Matrix x = matrixAt(m);
        if (x == null) {
            return false;
        }
        x.there = false;
        return true;
    }

    public boolean put(int m, int i, int j, long bits) {
        Matrix x = matrixAt(m);
        if (x == null || !x.hasPlace(i, j) || !Doubles.finite(bits)) {
            return false;
        }
        boolean more = Doubles.magnitude(bits) != 0 && x.at(i, j) == 0;
        if (more && x.form == Matrix.SPARSE && x.filled() >= Matrix.MOST_SPARSE) {
            return false;
        }
        x.store(i, j, bits);
        return true;
    }

    public long get(int m, int i, int j) {
        Matrix x = matrixAt(m);
        if (x == null || !x.inside(i, j)) {
            return -1;
        }
        return x.at(i, j);
    }

    public int shape(int m, int what) {
        Matrix x = matrixAt(m);
        if (x == null) {
            return NONE;
        }
        switch (what) {
            case 0: return x.form;
            case 1: return x.rows;
            case 2: return x.columns;
            case 3: return x.a;
            case 4: return x.b;
            case 5: return x.filled();
            case 6: return x.onLattice() ? 1 : 0;
            case 7: return x.rows == x.columns ? x.width() : NONE;
            default: return NONE;
        }
    }

    public int sum(int x, int y) {
        Matrix p = matrixAt(x);
        Matrix q = matrixAt(y);
        int free = freeMatrix();
        if (p == null || q == null || free == NONE || !p.alike(q)) {
            return NONE;
        }
        matrices[free].begin(Matrix.FULL, p.rows, p.columns, 0, 0);
        return matrices[free].becomeSum(p, q) ? free : NONE;
    }

    public int product(int x, int y, boolean fused) {
        Matrix p = matrixAt(x);
        Matrix q = matrixAt(y);
        int free = freeMatrix();
        if (p == null || q == null || free == NONE || p.columns != q.rows) {
            return NONE;
        }
        matrices[free].begin(Matrix.FULL, p.rows, q.columns, 0, 0);
        return matrices[free].becomeProduct(p, q, fused) ? free : NONE;
    }

    public int transpose(int m) {
        Matrix x = matrixAt(m);
        int free = freeMatrix();
        if (x == null || free == NONE) {
            return NONE;
        }
        Matrix made = matrices[free];
        made.begin(Matrix.FULL, x.columns, x.rows, 0, 0);
        for (int i = 0; i < x.rows; i++) {
            for (int j = 0; j < x.columns; j++) {
                made.store(j, i, x.at(i, j));
            }
        }
        made.there = true;
        return free;
    }

    public int formed(int m, int form, int a, int b) {
        Matrix x = matrixAt(m);
        int free = freeMatrix();
        if (x == null || free == NONE || !Matrix.sound(form, x.rows, x.columns, a, b)) {
            return NONE;
        }
        matrices[free].begin(form, x.rows, x.columns, a, b);
        return matrices[free].takeNumbers(x) ? free : NONE;
    }

    public int block(int m, int i, int j, int rows, int columns) {
        Matrix x = matrixAt(m);
        int free = freeMatrix();
        if (x == null || free == NONE || !x.inside(i, j) || rows < 1 || columns < 1) {
            return NONE;
        }
        if (rows > x.rows - i || columns > x.columns - j) {
            return NONE;
        }
        Matrix made = matrices[free];
        made.begin(Matrix.FULL, rows, columns, 0, 0);
        for (int p = 0; p < rows; p++) {
            for (int q = 0; q < columns; q++) {
                made.store(p, q, x.at(i + p, j + q));
            }
        }
        made.there = true;
        return free;
    }

    public int same(int x, int y) {
        Matrix p = matrixAt(x);
        Matrix q = matrixAt(y);
        if (p == null || q == null) {
            return NONE;
        }
        return p.alike(q) && p.equalNumbers(q) ? 1 : 0;
    }

    // ---- factors

    public int factor(int m, int method, boolean fused) {
        Matrix x = matrixAt(m);
        int free = freeFactor();
        if (x == null || free == NONE || x.rows != x.columns) {
            return NONE;
        }
        if (method < Factor.PLAIN || method > Factor.ROOTS) {
            return NONE;
        }
        int failed = factors[free].make(x, method, fused);
        if (failed != Factor.MADE) {
            return -2 - failed;
        }
        factors[free].there = true;
        return free;
    }

    public boolean release(int f) {
        Factor x = factorAt(f);
        if (x == null) {
            return false;
        }
        x.there = false;
        return true;
    }

    public long part(int f, int i, int j) {
        Factor x = factorAt(f);
        if (x == null || i < 0 || i >= x.n || j < 0 || j >= x.n) {
            return -1;
        }
        return x.at(i, j);
    }

    public int order(int f, int axis, int k) {
        Factor x = factorAt(f);
        if (x == null || k < 0 || k >= x.n || axis < 0 || axis > 1) {
            return NONE;
        }
        return axis == 0 ? x.rowOrder[k] : x.columnOrder[k];
    }

    public long growth(int f) {
        Factor x = factorAt(f);
        return x == null ? -1 : x.grown();
    }

    public long pivots(int f, int what) {
        Factor x = factorAt(f);
        if (x == null || what < 0 || what > 1) {
            return -1;
        }
        return x.pivotProduct(what == 1);
    }

    // ---- vectors

    public int vector(int n) {
        int free = freeVector();
        if (free == NONE || n < 1 || n > MOST_ROWS) {
            return NONE;
        }
        vectors[free].begin(n);
        return free;
    }

    public boolean forget(int v) {
        Vector x = vectorAt(v);
        if (x == null) {
            return false;
        }
        x.there = false;
        return true;
    }

    public boolean set(int v, int i, long bits) {
        Vector x = vectorAt(v);
        if (x == null || i < 0 || i >= x.n || !Doubles.finite(bits)) {
            return false;
        }
        x.bits[i] = Doubles.unsignedZero(bits);
        return true;
    }

    public long value(int v, int i) {
        Vector x = vectorAt(v);
        if (x == null || i < 0 || i >= x.n) {
            return -1;
        }
        return x.bits[i];
    }

    public int size(int v) {
        Vector x = vectorAt(v);
        return x == null ? NONE : x.n;
    }

    public int solve(int f, int r) {
        Factor x = factorAt(f);
        Vector right = vectorAt(r);
        int free = freeVector();
        if (x == null || right == null || free == NONE || right.n != x.n) {
            return NONE;
        }
        if (!x.answer(right.bits, answer)) {
            return NONE;
        }
        return newVector(free, x.n);
    }

    public long residual(int m, int s, int r, int i) {
        Matrix x = matrixAt(m);
        if (!fits(x, s, r) || i < 0 || i >= x.rows) {
            return -1;
        }
        return residuals.roundedAt(x, vectors[s].bits, vectors[r].bits, i);
    }

    public long greatest(int m, int s, int r) {
        Matrix x = matrixAt(m);
        if (!fits(x, s, r)) {
            return -1;
        }
        long bits = residuals.greatestUp(x, vectors[s].bits, vectors[r].bits);
        return Doubles.finite(bits) ? bits : -1;
    }

    public int refine(int m, int f, int s, int r, int rounds) {
        Matrix x = matrixAt(m);
        Factor y = factorAt(f);
        if (!fits(x, s, r) || y == null || x.rows != x.columns || x.rows != y.n) {
            return NONE;
        }
        if (rounds < 1 || rounds > MOST_ROUNDS) {
            return NONE;
        }
        residuals.start(x, vectors[s].bits, vectors[r].bits);
        int counted = 0;
        while (counted < rounds && residuals.round(x, y, vectors[r].bits)) {
            counted++;
        }
        residuals.finish(x, vectors[s].bits);
        return counted;
    }

    public int inverse(int f) {
        Factor x = factorAt(f);
        int free = freeMatrix();
        if (x == null || free == NONE) {
            return NONE;
        }
        Matrix made = matrices[free];
        made.begin(Matrix.FULL, x.n, x.n, 0, 0);
        for (int k = 0; k < x.n; k++) {
            for (int i = 0; i < x.n; i++) {
                unit[i] = i == k ? Doubles.ONE : 0;
            }
            if (!x.answer(unit, answer)) {
                return NONE;
            }
            for (int i = 0; i < x.n; i++) {
                made.store(i, k, answer[i]);
            }
        }
        made.there = true;
        return free;
    }

    // ---- exactly

    public int exactly(int m, int r) {
        Matrix x = matrixAt(m);
        Vector right = vectorAt(r);
        if (x == null || right == null || x.rows != right.n) {
            return NONE;
        }
        if (!x.onLattice() || !right.onLattice()) {
            return NONE;
        }
        int found = elimination.solutions(x, right.bits);
        if (found != Elimination.ONE_SOLUTION) {
            return found;
        }
        int free = freeVector();
        if (free == NONE) {
            return NONE;
        }
        elimination.writeSolution(answer);
        return newVector(free, x.columns) + 2;
    }

    public int rank(int m) {
        Matrix x = matrixAt(m);
        if (x == null || !x.onLattice()) {
            return NONE;
        }
        return elimination.rankOf(x);
    }

    public int nullVector(int m, int k) {
        Matrix x = matrixAt(m);
        int free = freeVector();
        if (x == null || free == NONE || k < 0 || !x.onLattice()) {
            return NONE;
        }
        if (!elimination.writeNullVector(x, k, answer)) {
            return NONE;
        }
        return newVector(free, x.columns);
    }

    public long determinant(int m) {
        Matrix x = matrixAt(m);
        return exactSquare(x) ? elimination.determinantOf(x) : -1;
    }

    public int digits(int m, int k) {
        Matrix x = matrixAt(m);
        if (k < 0 || k > 27 || !exactSquare(x)) {
            return 0;
        }
        return elimination.determinantDigits(x, k);
    }

    public long condition(int m) {
        Matrix x = matrixAt(m);
        return exactSquare(x) ? elimination.conditionOf(x) : -1;
    }

    public long gap(int x, int w) {
        Matrix p = matrixAt(x);
        Matrix q = matrixAt(w);
        if (p == null || !exactSquare(q) || p.rows != p.columns || p.rows != q.rows) {
            return -1;
        }
        long bits = residuals.gapOf(p, q);
        return Doubles.finite(bits) ? bits : -1;
    }

    public long bound(int x, int w, int s, int r) {
        Matrix p = matrixAt(x);
        Matrix q = matrixAt(w);
        if (p == null || !exactSquare(q) || p.rows != p.columns || p.rows != q.rows) {
            return -1;
        }
        if (!fits(q, s, r)) {
            return -1;
        }
        return residuals.boundOf(p, q, vectors[s].bits, vectors[r].bits);
    }

    public int reorder(int m) {
        Matrix x = matrixAt(m);
        int free = freeMatrix();
        if (x == null || free == NONE || x.rows != x.columns) {
            return NONE;
        }
        ordering.arrange(x);
        Matrix made = matrices[free];
        made.begin(Matrix.FULL, x.rows, x.rows, 0, 0);
        for (int i = 0; i < x.rows; i++) {
            for (int j = 0; j < x.rows; j++) {
                made.store(i, j, x.at(ordering.rowAt(i), ordering.rowAt(j)));
            }
        }
        made.there = true;
        return free;
    }

    public int place(int k) {
        return ordering.rowAt(k);
    }

    // ---- bytes

    public int pack(int m) {
        Matrix x = matrixAt(m);
        return x == null ? NONE : tape.writeMatrix(x);
    }

    public int octet(int i) {
        return tape.packedAt(i);
    }

    public int feed(int a, int b, int c, int d, int e) {
        if (!tape.hasRoom(20)) {
            return NONE;
        }
        tape.append(a);
        tape.append(b);
        tape.append(c);
        tape.append(d);
        tape.append(e);
        return tape.length;
    }

    public boolean end(int n) {
        if (n < 0 || n > tape.length) {
            return false;
        }
        tape.length = n;
        return true;
    }

    public int take() {
        return tape.takePacked();
    }

    public int unpack() {
        int free = freeMatrix();
        boolean read = free != NONE && tape.read(matrices[free]);
        tape.length = 0;
        if (!read) {
            return NONE;
        }
        matrices[free].there = true;
        return free;
    }

    public int count(int what) {
        switch (what) {
            case 0: return countMatrices();
            case 1: return countFactors();
            case 2: return countVectors();
            case 3: return tape.length;
            default: return NONE;
        }
    }

    // ---- what is there

    private Matrix matrixAt(int m) {
        return m >= 0 && m < MOST_MATRICES && matrices[m].there ? matrices[m] : null;
    }

    private Factor factorAt(int f) {
        return f >= 0 && f < MOST_FACTORS && factors[f].there ? factors[f] : null;
    }

    private Vector vectorAt(int v) {
        return v >= 0 && v < MOST_VECTORS && vectors[v].there ? vectors[v] : null;
    }

    private int freeMatrix() {
        for (int m = 0; m < MOST_MATRICES; m++) {
            if (!matrices[m].there) {
                return m;
            }
        }
        return NONE;
    }

    private int freeFactor() {
        for (int f = 0; f < MOST_FACTORS; f++) {
            if (!factors[f].there) {
                return f;
            }
        }
        return NONE;
    }

    private int freeVector() {
        for (int v = 0; v < MOST_VECTORS; v++) {
            if (!vectors[v].there) {
                return v;
            }
        }
        return NONE;
    }

    private int countMatrices() {
        int n = 0;
        for (int m = 0; m < MOST_MATRICES; m++) {
            n += matrices[m].there ? 1 : 0;
        }
        return n;
    }

    private int countFactors() {
        int n = 0;
        for (int f = 0; f < MOST_FACTORS; f++) {
            n += factors[f].there ? 1 : 0;
        }
        return n;
    }

    private int countVectors() {
        int n = 0;
        for (int v = 0; v < MOST_VECTORS; v++) {
            n += vectors[v].there ? 1 : 0;
        }
        return n;
    }

    /** The answer that was written last becomes the vector of a free number. */
    private int newVector(int free, int n) {
        Vector made = vectors[free];
        made.begin(n);
        for (int i = 0; i < made.n; i++) {
            made.bits[i] = Doubles.unsignedZero(answer[i]);
        }
        return free;
    }

    /** Whether a matrix, a vector of its columns and one of its rows are there. */
    private boolean fits(Matrix x, int s, int r) {
        Vector p = vectorAt(s);
        Vector q = vectorAt(r);
        return x != null && p != null && q != null && p.n == x.columns && q.n == x.rows;
    }

    private static boolean exactSquare(Matrix x) {
        return x != null && x.rows == x.columns && x.onLattice();
    }

    /** Doubles told by their bits; every step is rounded here, with whole numbers alone. */
    private static final class Doubles {
        static final long SIGN = 0x8000000000000000L;
        static final long SIZE = 0x7FFFFFFFFFFFFFFFL;
        static final long INFINITE = 0x7FF0000000000000L;
        static final long ONE = 0x3FF0000000000000L;
        static final long TWO = 0x4000000000000000L;
        static final long MINUS_ONE = 0xBFF0000000000000L;
        static final long FRACTION = 0x000FFFFFFFFFFFFFL;
        static final long HIDDEN = 0x0010000000000000L;
        static final long LOW = 0xFFFFFFFFL;
        static final long LATTICE_TOP = 0x4270000000000000L;

        static boolean finite(long bits) {
            return (bits & INFINITE) != INFINITE;
        }

        static long magnitude(long bits) {
            return bits & SIZE;
        }

        static long unsignedZero(long bits) {
            return bits == SIGN ? 0 : bits;
        }

        /** How many bits a number without sign has, 0 for 0. */
        static int bitLength(long v) {
            long rest = v;
            int n = 0;
            for (int step = 32; step > 0; step >>= 1) {
                if (rest >>> step != 0) {
                    rest >>>= step;
                    n += step;
                }
            }
            return rest == 0 ? n : n + 1;
        }

        static int lowestBit(long v) {
            return bitLength(v & -v) - 1;
        }

        static long mantissa(long bits) {
            long fraction = bits & FRACTION;
            return (bits & INFINITE) == 0 ? fraction : fraction | HIDDEN;
        }

        /** A finite number is its mantissa times 2 to this. */
        static int scale(long bits) {
            int e = (int) (bits >>> 52) & 2047;
            return (e == 0 ? 1 : e) - 1075;
        }

        /** The mantissa with its highest bit at 52, for subnormal numbers too. */
        static long fullMantissa(long bits) {
            long m = mantissa(bits);
            return m == 0 ? 0 : m << (53 - bitLength(m));
        }

        static int fullScale(long bits) {
            return scale(bits) - (53 - bitLength(mantissa(bits)));
        }

        static boolean isLatticeNumber(long bits) {
            long m = mantissa(bits);
            if (m == 0) {
                return magnitude(bits) == 0;
            }
            return magnitude(bits) <= LATTICE_TOP && scale(bits) + lowestBit(m) >= -LATTICE_DEPTH;
        }

        /** The next double above a number that is not below 0. */
        static long above(long bits) {
            return finite(bits) ? bits + 1 : bits;
        }

        /**
         * m times 2 to scale, and a little more if so told, as a double: the nearest (of two the
         * even one), or the least not below it. With a little more, m has at least 55 bits.
         */
        static long rounded(boolean negative, long m, boolean more, int scale, boolean up) {
            long sign = negative ? SIGN : 0;
            if (m <= 0) {
                return sign;
            }
            int top = scale + bitLength(m) - 1;
            if (top > 1023) {
                return sign | INFINITE;
            }
            int unit = top < -1022 ? -1074 : top - 52;
            int drop = unit - scale;
            long kept = drop > 63 ? 0 : drop > 0 ? m >>> drop : m << -drop;
            boolean next = up && more;
            if (drop > 63) {
                next = up;
            } else if (drop > 0) {
                long rest = m - (kept << drop);
                long half = 1L << (drop - 1);
                boolean tie = rest == half && (more || (kept & 1) != 0);
                next = up ? more || rest != 0 : rest > half || tie;
            }
            return sign | (((long) (unit + 1074) << 52) + kept + (next ? 1 : 0));
        }

        static long plus(long a, long b) {
            boolean turned = magnitude(a) < magnitude(b);
            long large = turned ? b : a;
            long small = turned ? a : b;
            if (magnitude(large) == 0) {
                return a & b;
            }
            int d = scale(large) - scale(small);
            long m = mantissa(large) << 9;
            long n = mantissa(small) << 9;
            long kept = d > 62 ? 0 : n >>> d;
            boolean lost = d > 62 ? n != 0 : kept << d != n;
            long total = (a ^ b) >= 0 ? m + kept : lost ? m - kept - 1 : m - kept;
            return total == 0 ? 0 : rounded(large < 0, total, lost, scale(large) - 9, false);
        }

        /** The bits from 64 on of the product of two numbers from 0 to below 2^63. */
        static long high(long m, long n) {
            long m1 = m >>> 32;
            long m0 = m & LOW;
            long n1 = n >>> 32;
            long n0 = n & LOW;
            long middle = m1 * n0 + (m0 * n0 >>> 32);
            long other = m0 * n1 + (middle & LOW);
            return m1 * n1 + (middle >>> 32) + (other >>> 32);
        }

        static long times(long a, long b) {
            boolean negative = (a ^ b) < 0;
            long m = fullMantissa(a) << 10;
            long n = fullMantissa(b) << 10;
            int scale = fullScale(a) + fullScale(b) - 20;
            return rounded(negative, high(m, n), m * n != 0, scale + 64, false);
        }

        /** a / b, for a b that is not 0. */
        static long over(long a, long b) {
            long m = fullMantissa(a);
            long n = fullMantissa(b);
            boolean negative = (a ^ b) < 0;
            if (n <= 0) {
                return negative ? SIGN | INFINITE : INFINITE;
            }
            long quotient = m / n;
            long rest = m % n;
            for (int step = 0; step < 6; step++) {
                rest <<= 10;
                quotient = (quotient << 10) + rest / n;
                rest %= n;
            }
            return rounded(negative, quotient, rest != 0, fullScale(a) - fullScale(b) - 60, false);
        }

        /** The root of a number above 0, two bits of it at a time. */
        static long root(long a) {
            long m = fullMantissa(a);
            int scale = fullScale(a);
            if ((scale & 1) != 0) {
                m <<= 1;
                scale--;
            }
            long found = 0;
            long rest = 0;
            for (int pair = 0; pair < 57; pair++) {
                rest = (rest << 2) + (pair < 27 ? (m >>> (52 - 2 * pair)) & 3 : 0);
                long trial = (found << 2) + 1;
                found <<= 1;
                if (rest >= trial) {
                    rest -= trial;
                    found++;
                }
            }
            return rounded(false, found, rest != 0, (scale >> 1) - 30, false);
        }

        /** a * b + c, rounded once: both as numbers of at most 127 bits, high and low. */
        static long fused(long a, long b, long c) {
            long sign = (a ^ b) & SIGN;
            if (magnitude(a) == 0 || magnitude(b) == 0) {
                return magnitude(c) == 0 ? sign & c : c;
            }
            long m = fullMantissa(a) << 10;
            long n = fullMantissa(b) << 10;
            long high = high(m, n);
            long low = m * n;
            long otherHigh = fullMantissa(c) << 9;
            long otherLow = 0;
            int scale = fullScale(a) + fullScale(b) - 20;
            int d = scale - (fullScale(c) - 73);
            if (d >= 0) {
                otherLow = lowerPart(otherHigh, 0, d);
                otherHigh = d > 63 ? 0 : otherHigh >>> d;
            } else {
                low = lowerPart(high, low, -d);
                high = -d > 63 ? 0 : high >>> -d;
                scale -= d;
            }
            if ((sign ^ c) >= 0) {
                low += otherLow;
                high += otherHigh + (below(low, otherLow) ? 1 : 0);
            } else {
                high -= otherHigh + (below(low, otherLow) ? 1 : 0);
                low -= otherLow;
            }
            if (high < 0) {
                low = -low;
                high = ~high + (low == 0 ? 1 : 0);
                sign ^= SIGN;
            }
            if (high == 0 && low >= 0) {
                return low == 0 ? 0 : rounded(sign < 0, low, false, scale, false);
            }
            int up = 63 - bitLength(high);
            long top = up == 0 ? high : high << up | low >>> (64 - up);
            return rounded(sign < 0, top, low << up != 0, scale + 64 - up, false);
        }

        /** Of numbers without sign. */
        static boolean below(long l, long q) {
            return (l ^ SIGN) < (q ^ SIGN);
        }

        /** The lower 64 bits of 128 that are shifted down by d; what is lost shows in the lowest. */
        static long lowerPart(long high, long low, int d) {
            if (d <= 0) {
                return low;
            }
            if (d < 64) {
                return high << (64 - d) | low >>> d | (low << (64 - d) != 0 ? 1 : 0);
            }
            if (d == 64) {
                return high | (low != 0 ? 1 : 0);
            }
            if (d < 128) {
                return high >>> (d - 64) | (high << (128 - d) != 0 || low != 0 ? 1 : 0);
            }
            return (high | low) != 0 ? 1 : 0;
        }

        /** t - a * b; what is not finite on the way stays so. */
        static long less(long t, long a, long b, boolean fused) {
            if (fused) {
                return fused(a ^ SIGN, b, t);
            }
            long p = times(a, b);
            return finite(p) ? plus(t, p ^ SIGN) : p;
        }
    }

    /** A matrix, or the room for one. */
    private static final class Matrix {
        static final int FULL = 0;
        static final int LOWER = 1;
        static final int BAND = 2;
        static final int SPARSE = 3;
        static final int BLOCKS = 4;
        static final int MOST_SPARSE = 20;

        boolean there;
        int form;
        int rows;
        int columns;
        int a;
        int b;
        private final long[] bits = new long[MOST_ROWS * MOST_ROWS];

        static boolean sound(int form, int rows, int columns, int a, int b) {
            if (rows < 1 || rows > MOST_ROWS || columns < 1 || columns > MOST_ROWS) {
                return false;
            }
            if (form == BAND) {
                return rows == columns && a >= 0 && a <= 7 && b >= 0 && b <= 7;
            }
            if (form == BLOCKS) {
                return a >= 1 && b >= 1 && rows % a == 0 && columns % b == 0;
            }
            if (form == LOWER && rows != columns) {
                return false;
            }
            return form >= FULL && form <= SPARSE && a == 0 && b == 0;
        }

        void begin(int form, int rows, int columns, int a, int b) {
            this.form = form;
            this.rows = rows;
            this.columns = columns;
            this.a = a;
            this.b = b;
            for (int k = 0; k < bits.length; k++) {
                bits[k] = 0;
            }
        }

        boolean inside(int i, int j) {
            return i >= 0 && i < rows && j >= 0 && j < columns;
        }

        boolean hasPlace(int i, int j) {
            if (!inside(i, j)) {
                return false;
            }
            if (form == LOWER) {
                return j <= i;
            }
            return form != BAND || i - j <= a && j - i <= b;
        }

        long at(int i, int j) {
            return inside(i, j) ? bits[i * MOST_ROWS + j] : 0;
        }

        void store(int i, int j, long number) {
            if (inside(i, j)) {
                bits[i * MOST_ROWS + j] = Doubles.unsignedZero(number);
            }
        }

        int filled() {
            int n = 0;
            for (int i = 0; i < rows; i++) {
                for (int j = 0; j < columns; j++) {
                    n += at(i, j) != 0 ? 1 : 0;
                }
            }
            return n;
        }

        boolean onLattice() {
            for (int i = 0; i < rows; i++) {
                for (int j = 0; j < columns; j++) {
                    if (!Doubles.isLatticeNumber(at(i, j))) {
                        return false;
                    }
                }
            }
            return true;
        }

        int width() {
            int width = 0;
            for (int i = 0; i < rows; i++) {
                for (int j = 0; j < columns; j++) {
                    if (at(i, j) != 0) {
                        width = Math.max(width, Math.abs(i - j));
                    }
                }
            }
            return width;
        }

        long greatestSize() {
            long most = 0;
            for (int i = 0; i < rows; i++) {
                for (int j = 0; j < columns; j++) {
                    most = Math.max(most, Doubles.magnitude(at(i, j)));
                }
            }
            return most;
        }

        boolean alike(Matrix other) {
            return rows == other.rows && columns == other.columns;
        }

        boolean equalNumbers(Matrix other) {
            for (int i = 0; i < rows; i++) {
                for (int j = 0; j < columns; j++) {
                    if (at(i, j) != other.at(i, j)) {
                        return false;
                    }
                }
            }
            return true;
        }

        /** Becomes there with the sum of two others, if all its numbers are finite. */
        boolean becomeSum(Matrix x, Matrix y) {
            for (int i = 0; i < rows; i++) {
                for (int j = 0; j < columns; j++) {
                    long number = Doubles.plus(x.at(i, j), y.at(i, j));
                    if (!Doubles.finite(number)) {
                        return false;
                    }
                    store(i, j, number);
                }
            }
            there = true;
            return true;
        }

        /** Becomes there with the product of two others, if all is finite on the way. */
        boolean becomeProduct(Matrix x, Matrix y, boolean fused) {
            for (int i = 0; i < rows; i++) {
                for (int j = 0; j < columns; j++) {
                    long s = 0;
                    for (int k = 0; k < x.columns; k++) {
                        s = Doubles.less(s, x.at(i, k) ^ Doubles.SIGN, y.at(k, j), fused);
                        if (!Doubles.finite(s)) {
                            return false;
                        }
                    }
                    store(i, j, s);
                }
            }
            there = true;
            return true;
        }

        /** Becomes there with the numbers of another, if all find a place. */
        boolean takeNumbers(Matrix x) {
            if (form == SPARSE && x.filled() > MOST_SPARSE) {
                return false;
            }
            for (int i = 0; i < rows; i++) {
                for (int j = 0; j < columns; j++) {
                    if (x.at(i, j) != 0 && !hasPlace(i, j)) {
                        return false;
                    }
                    store(i, j, x.at(i, j));
                }
            }
            there = true;
            return true;
        }
    }

    /** A vector, or the room for one. */
    private static final class Vector {
        boolean there;
        int n;
        final long[] bits = new long[MOST_ROWS];

        void begin(int size) {
            there = true;
            n = size;
            for (int i = 0; i < MOST_ROWS; i++) {
                bits[i] = 0;
            }
        }

        boolean onLattice() {
            for (int i = 0; i < n; i++) {
                if (!Doubles.isLatticeNumber(bits[i])) {
                    return false;
                }
            }
            return true;
        }
    }

    /** A factor, or the room for one. */
    private static final class Factor {
        static final int PLAIN = 0;
        static final int BY_BOTH = 2;
        static final int ROOTS = 3;
        static final int MADE = -1;

        boolean there;
        int n;
        private int method;
        private boolean fused;
        private boolean turned;
        private long before;
        private final long[] w = new long[MOST_ROWS * MOST_ROWS];
        final int[] rowOrder = new int[MOST_ROWS];
        final int[] columnOrder = new int[MOST_ROWS];
        private final long[] y = new long[MOST_ROWS];
        private final long[] z = new long[MOST_ROWS];

        long at(int i, int j) {
            int k = i * MOST_ROWS + j;
            return k >= 0 && k < w.length ? w[k] : 0;
        }

        private void store(int i, int j, long number) {
            int k = i * MOST_ROWS + j;
            if (k >= 0 && k < w.length) {
                w[k] = number;
            }
        }

        /** MADE, or the k at which it fails. */
        int make(Matrix m, int how, boolean once) {
            n = m.rows;
            method = how;
            fused = once;
            turned = false;
            before = m.greatestSize();
            for (int i = 0; i < n; i++) {
                rowOrder[i] = i;
                columnOrder[i] = i;
                for (int j = 0; j < n; j++) {
                    store(i, j, m.at(i, j));
                }
            }
            return method == ROOTS ? makeByRoots() : makeByPivots();
        }

        private int makeByPivots() {
            for (int k = 0; k < n; k++) {
                if (method != PLAIN) {
                    exchange(k);
                }
                if (Doubles.magnitude(at(k, k)) == 0) {
                    return k;
                }
                for (int i = k + 1; i < n; i++) {
                    if (!workRow(k, i)) {
                        return k;
                    }
                }
            }
            return MADE;
        }

        private boolean workRow(int k, int i) {
            long l = Doubles.over(at(i, k), at(k, k));
            if (!Doubles.finite(l)) {
                return false;
            }
            store(i, k, l);
            for (int j = k + 1; j < n; j++) {
                long number = Doubles.less(at(i, j), l, at(k, j), fused);
                if (!Doubles.finite(number)) {
                    return false;
                }
                store(i, j, number);
            }
            return true;
        }

        /** Brings the greatest number that the method may choose to k, k. */
        private void exchange(int k) {
            int row = k;
            int column = k;
            int end = method == BY_BOTH ? n : k + 1;
            for (int i = k; i < n; i++) {
                for (int j = k; j < end; j++) {
                    if (Doubles.magnitude(at(i, j)) > Doubles.magnitude(at(row, column))) {
                        row = i;
                        column = j;
                    }
                }
            }
            if (row != k) {
                exchangeRows(k, row);
            }
            if (column != k) {
                exchangeColumns(k, column);
            }
        }

        private void exchangeRows(int k, int row) {
            for (int j = 0; j < n; j++) {
                long number = at(k, j);
                store(k, j, at(row, j));
                store(row, j, number);
            }
            int which = rowOrder[k];
            rowOrder[k] = rowOrder[row];
            rowOrder[row] = which;
            turned = !turned;
        }

        private void exchangeColumns(int k, int column) {
            for (int i = 0; i < n; i++) {
                long number = at(i, k);
                store(i, k, at(i, column));
                store(i, column, number);
            }
            int which = columnOrder[k];
            columnOrder[k] = columnOrder[column];
            columnOrder[column] = which;
            turned = !turned;
        }

        private int makeByRoots() {
            for (int i = 0; i < n; i++) {
                for (int j = 0; j <= i; j++) {
                    if (!rootStep(i, j)) {
                        return i;
                    }
                }
                for (int j = i + 1; j < n; j++) {
                    store(i, j, 0);
                }
            }
            return MADE;
        }

        private boolean rootStep(int i, int j) {
            long t = at(i, j);
            for (int k = 0; k < j; k++) {
                t = Doubles.less(t, at(i, k), at(j, k), fused);
                if (!Doubles.finite(t)) {
                    return false;
                }
            }
            if (i == j && t <= 0) {
                return false;
            }
            long h = i == j ? Doubles.root(t) : Doubles.over(t, at(j, j));
            store(i, j, h);
            return Doubles.finite(h);
        }

        /** Solves for a right side; false if a number is not finite. */
        boolean answer(long[] right, long[] into) {
            for (int i = 0; i < n; i++) {
                int from = rowOrder[i];
                if (from < 0 || from >= right.length || !forward(i, right[from])) {
                    return false;
                }
            }
            for (int i = n - 1; i >= 0; i--) {
                int to = columnOrder[i];
                if (to < 0 || to >= into.length || !backward(i)) {
                    return false;
                }
                into[to] = Doubles.unsignedZero(z[i]);
            }
            return true;
        }

        private boolean forward(int i, long start) {
            long t = start;
            for (int k = 0; k < i; k++) {
                t = Doubles.less(t, at(i, k), y[k], fused);
                if (!Doubles.finite(t)) {
                    return false;
                }
            }
            y[i] = method == ROOTS ? Doubles.over(t, at(i, i)) : t;
            return Doubles.finite(y[i]);
        }

        private boolean backward(int i) {
            long t = y[i];
            for (int k = i + 1; k < n; k++) {
                t = Doubles.less(t, method == ROOTS ? at(k, i) : at(i, k), z[k], fused);
                if (!Doubles.finite(t)) {
                    return false;
                }
            }
            z[i] = Doubles.over(t, at(i, i));
            return Doubles.finite(z[i]);
        }

        long grown() {
            long most = 0;
            for (int i = 0; i < n; i++) {
                for (int j = 0; j < n; j++) {
                    if (method == ROOTS ? j <= i : j >= i) {
                        most = Math.max(most, Doubles.magnitude(at(i, j)));
                    }
                }
            }
            return Doubles.over(most, before);
        }

        /** The determinant's p as bits, or its e. */
        long pivotProduct(boolean exponent) {
            long p = turned ? Doubles.MINUS_ONE : Doubles.ONE;
            long e = 0;
            for (int k = 0; k < n; k++) {
                long number = at(k, k);
                long u = number & Doubles.SIGN | Doubles.ONE | Doubles.fullMantissa(number) & Doubles.FRACTION;
                p = Doubles.times(p, u);
                e += Doubles.fullScale(number) + 52;
                if (Doubles.magnitude(p) >= Doubles.TWO) {
                    p -= Doubles.HIDDEN;
                    e++;
                }
            }
            if (method == ROOTS) {
                p = Doubles.times(p, p);
                e += e;
                if (Doubles.magnitude(p) >= Doubles.TWO) {
                    p -= Doubles.HIDDEN;
                    e++;
                }
            }
            return exponent ? e : p;
        }
    }

    /**
     * An exact sum of doubles and of products of two: digits of 32 bits from 2^-2176 on, each with
     * room for carries, which settle() brings up. Digits outside of low .. high are 0.
     */
    private static final class Total {
        private static final int DIGITS = 136;
        private static final int BOTTOM = -2176;
        private static final long PIECE = 0x003FFFFFFFFFFFFFL;

        private final long[] digit = new long[DIGITS];
        private int low = DIGITS;
        private int high = -1;
        private boolean negative;

        void clear() {
            for (int d = low; d <= high; d++) {
                digit[d] = 0;
            }
            low = DIGITS;
            high = -1;
            negative = false;
        }

        /** Adds value (of at most 54 bits) times 2 to scale. */
        private void addPiece(long value, int scale, boolean minus) {
            int index = scale - BOTTOM;
            int d = index >> 5;
            if (value == 0 || d < 0 || d + 2 >= DIGITS) {
                return;
            }
            int s = index & 31;
            long first = (value & Doubles.LOW) << s;
            long second = (value >>> 32) << s;
            long sign = minus ? -1 : 1;
            digit[d] += sign * (first & Doubles.LOW);
            digit[d + 1] += sign * ((first >>> 32) + (second & Doubles.LOW));
            digit[d + 2] += sign * (second >>> 32);
            low = Math.min(low, d);
            high = Math.max(high, d + 2);
        }

        void addNumber(long bits, boolean minus) {
            addPiece(Doubles.mantissa(bits), Doubles.scale(bits), bits < 0 != minus);
        }

        void addProduct(long a, long b, boolean minus) {
            long m = Doubles.mantissa(a);
            long n = Doubles.mantissa(b);
            long lower = m * n;
            long upper = Doubles.high(m, n) << 10 | lower >>> 54;
            int scale = Doubles.scale(a) + Doubles.scale(b);
            boolean down = (a ^ b) < 0 != minus;
            addPiece(lower & PIECE, scale, down);
            addPiece(upper, scale + 54, down);
        }

        /** Adds what another, settled one is without sign. */
        void addSize(Total other) {
            for (int d = other.low; d <= other.high; d++) {
                digit[d] += other.digit[d];
            }
            low = Math.min(low, other.low);
            high = Math.max(high, other.high);
        }

        /** Brings carries up, and the sign out of the digits. */
        void settle() {
            if (high < 0) {
                return;
            }
            high = Math.min(high + 2, DIGITS - 1);
            negative = carry(1) < 0;
            if (negative) {
                carry(-1);
            }
        }

        private long carry(int sign) {
            long carry = 0;
            for (int d = low; d <= high; d++) {
                long number = sign * digit[d] + carry;
                digit[d] = number & Doubles.LOW;
                carry = number >> 32;
            }
            return carry;
        }

        void copy(Total other) {
            clear();
            for (int d = other.low; d <= other.high; d++) {
                digit[d] = other.digit[d];
            }
            low = other.low;
            high = other.high;
            negative = other.negative;
        }

        /** Whether this, settled, is above another without signs. */
        boolean exceeds(Total other) {
            int bottom = Math.min(low, other.low);
            for (int d = Math.max(high, other.high); d >= bottom; d--) {
                if (digit[d] != other.digit[d]) {
                    return digit[d] > other.digit[d];
                }
            }
            return false;
        }

        /** This, settled: the nearest double, or UP of what it is without sign. */
        long toDouble(boolean up) {
            int top = high;
            while (top >= 0 && digit[top] == 0) {
                top--;
            }
            if (top < 0) {
                return 0;
            }
            int n = Doubles.bitLength(digit[top]);
            long next = top > 0 ? digit[top - 1] : 0;
            long third = top > 1 ? digit[top - 2] : 0;
            long pair = digit[top] << 32 | next;
            long m;
            boolean more;
            if (n > 30) {
                m = pair >>> (n - 30);
                more = m << (n - 30) != pair || third != 0;
            } else {
                m = pair << (30 - n) | third >>> (n + 2);
                more = (third & ((1L << (n + 2)) - 1)) != 0;
            }
            for (int d = top - 3; d >= low && !more; d--) {
                more = digit[d] != 0;
            }
            return Doubles.rounded(negative && !up, m, more, 32 * top + n - 62 + BOTTOM, up);
        }
    }

    /** Residuals, refining by them, and the bounds that they prove. */
    private static final class Residuals {
        private final Total work = new Total();
        private final Total row = new Total();
        private final Total best = new Total();
        private final Total other = new Total();
        private final long[] numbers = new long[MOST_ROWS];
        private final long[] nextNumbers = new long[MOST_ROWS];
        private final long[] change = new long[MOST_ROWS];
        private final long[] next = new long[MOST_ROWS];
        private final long[] current = new long[MOST_ROWS];

        /** Number i of the residual comes to work. */
        private void exact(Matrix x, long[] s, long[] r, int i) {
            work.clear();
            work.addNumber(r[i], false);
            for (int j = 0; j < x.columns; j++) {
                work.addProduct(x.at(i, j), s[j], true);
            }
            work.settle();
        }

        long roundedAt(Matrix x, long[] s, long[] r, int i) {
            if (i < 0 || i >= r.length) {
                return -1;
            }
            exact(x, s, r, i);
            long bits = work.toDouble(false);
            return Doubles.finite(bits) ? Doubles.unsignedZero(bits) : -1;
        }

        /** Writes the residual's numbers, rounded, and the greatest of it, exact. */
        private void measure(Matrix x, long[] s, long[] r, long[] into, Total most) {
            most.clear();
            for (int i = 0; i < x.rows; i++) {
                exact(x, s, r, i);
                into[i] = Doubles.unsignedZero(work.toDouble(false));
                if (work.exceeds(most)) {
                    most.copy(work);
                }
            }
        }

        long greatestUp(Matrix x, long[] s, long[] r) {
            measure(x, s, r, numbers, best);
            return best.toDouble(true);
        }

        /** Begins to refine: current is s. */
        void start(Matrix x, long[] s, long[] r) {
            for (int i = 0; i < x.columns; i++) {
                current[i] = s[i];
            }
            measure(x, current, r, numbers, best);
        }

        /** What was refined comes to s. */
        void finish(Matrix x, long[] s) {
            for (int i = 0; i < x.columns; i++) {
                s[i] = current[i];
            }
        }

        /** One round on current, its rounded residual and the greatest of it; false when it is over. */
        boolean round(Matrix x, Factor f, long[] r) {
            for (int i = 0; i < x.rows; i++) {
                if (!Doubles.finite(numbers[i])) {
                    return false;
                }
            }
            if (!f.answer(numbers, change)) {
                return false;
            }
            for (int i = 0; i < x.columns; i++) {
                next[i] = Doubles.plus(current[i], change[i]);
                if (!Doubles.finite(next[i])) {
                    return false;
                }
            }
            measure(x, next, r, nextNumbers, other);
            if (!best.exceeds(other)) {
                return false;
            }
            best.copy(other);
            for (int i = 0; i < x.columns; i++) {
                current[i] = next[i];
                numbers[i] = nextNumbers[i];
            }
            return true;
        }

        /** The gap of x to w, infinite beyond all doubles. */
        long gapOf(Matrix x, Matrix w) {
            best.clear();
            for (int i = 0; i < x.rows; i++) {
                row.clear();
                for (int j = 0; j < w.columns; j++) {
                    lack(x, w, i, j);
                    row.addSize(work);
                }
                row.settle();
                if (row.exceeds(best)) {
                    best.copy(row);
                }
            }
            return best.toDouble(true);
        }

        /** What x times w lacks at i, j to 1 at i, i and else 0 comes to work. */
        private void lack(Matrix x, Matrix w, int i, int j) {
            work.clear();
            if (i == j) {
                work.addNumber(Doubles.ONE, false);
            }
            for (int k = 0; k < x.columns; k++) {
                work.addProduct(x.at(i, k), w.at(k, j), true);
            }
            work.settle();
        }

        /** The greatest row sum of x, each step next above; infinite beyond all doubles. */
        private static long sumAbove(Matrix x) {
            long most = 0;
            for (int i = 0; i < x.rows; i++) {
                long t = 0;
                for (int j = 0; j < x.columns; j++) {
                    t = Doubles.above(Doubles.plus(t, Doubles.magnitude(x.at(i, j))));
                    if (!Doubles.finite(t)) {
                        return t;
                    }
                }
                most = Math.max(most, t);
            }
            return most;
        }

        long boundOf(Matrix x, Matrix w, long[] s, long[] r) {
            long g = gapOf(x, w);
            if (g >= Doubles.ONE) {
                return Doubles.MINUS_ONE;
            }
            long most = sumAbove(x);
            long greatest = greatestUp(w, s, r);
            if (!Doubles.finite(most) || !Doubles.finite(greatest)) {
                return Doubles.MINUS_ONE;
            }
            long d = Doubles.plus(Doubles.ONE, g ^ Doubles.SIGN) - 1;
            long b = Doubles.above(Doubles.times(most, greatest));
            if (!Doubles.finite(b)) {
                return Doubles.MINUS_ONE;
            }
            long bits = Doubles.above(Doubles.over(b, d));
            return Doubles.finite(bits) ? bits : Doubles.MINUS_ONE;
        }
    }

    /** A whole number: a sign, and limbs of 32 bits, the lowest first; no limb above length counts. */
    private static final class Whole {
        private static final int LONG = 56;
        private static final int SHORT = 28;

        private final int[] limb;
        int length;
        int sign;

        Whole(boolean wide) {
            limb = new int[wide ? LONG : SHORT];
        }

        void zero() {
            length = 0;
            sign = 0;
        }

        /** Becomes m times 2 to shift, with a sign. */
        void become(long m, int shift, int itsSign) {
            zero();
            if (m == 0 || shift < 0) {
                return;
            }
            limb[0] = (int) m;
            limb[1] = (int) (m >>> 32);
            length = 2;
            sign = itsSign;
            trim();
            shiftUp(shift);
        }

        void copy(Whole other) {
            zero();
            if (other.length > limb.length) {
                return;
            }
            for (int i = 0; i < other.length; i++) {
                limb[i] = other.limb[i];
            }
            length = other.length;
            sign = other.sign;
        }

        private void trim() {
            while (length > 0 && limb[length - 1] == 0) {
                length--;
            }
            if (length == 0) {
                sign = 0;
            }
        }

        int countBits() {
            return length == 0 ? 0 : 32 * (length - 1) + Doubles.bitLength(limb[length - 1] & Doubles.LOW);
        }

        int trailingZeros() {
            for (int i = 0; i < length; i++) {
                if (limb[i] != 0) {
                    return 32 * i + Doubles.lowestBit(limb[i] & Doubles.LOW);
                }
            }
            return 0;
        }

        void shiftUp(int shift) {
            int far = shift >> 5;
            int near = shift & 31;
            if (length == 0 || shift <= 0 || length + far + 1 > limb.length) {
                return;
            }
            limb[length + far] = 0;
            for (int i = length - 1; i >= 0; i--) {
                long number = (limb[i] & Doubles.LOW) << near;
                limb[i + far + 1] |= (int) (number >>> 32);
                limb[i + far] = (int) number;
            }
            for (int i = 0; i < far; i++) {
                limb[i] = 0;
            }
            length += far + 1;
            trim();
        }

        void shiftDown(int shift) {
            int far = shift >> 5;
            int near = shift & 31;
            if (shift <= 0) {
                return;
            }
            for (int i = far; i < length; i++) {
                long upper = i + 1 < length ? limb[i + 1] & Doubles.LOW : 0;
                limb[i - far] = (int) ((upper << 32 | limb[i] & Doubles.LOW) >>> near);
            }
            length = Math.max(length - far, 0);
            trim();
        }

        void becomeProduct(Whole x, Whole y) {
            zero();
            int n = x.length + y.length;
            if (x.sign == 0 || y.sign == 0 || n > limb.length) {
                return;
            }
            for (int i = 0; i < n; i++) {
                limb[i] = 0;
            }
            for (int i = 0; i < x.length; i++) {
                long one = x.limb[i] & Doubles.LOW;
                long carry = 0;
                for (int j = 0; j < y.length; j++) {
                    carry += one * (y.limb[j] & Doubles.LOW) + (limb[i + j] & Doubles.LOW);
                    limb[i + j] = (int) carry;
                    carry >>>= 32;
                }
                limb[i + y.length] = (int) carry;
            }
            length = n;
            sign = x.sign * y.sign;
            trim();
        }

        /** Above 0 if this is greater than another without signs, 0 if as great. */
        int compareSize(Whole other) {
            if (length != other.length) {
                return length > other.length ? 1 : -1;
            }
            for (int i = length - 1; i >= 0; i--) {
                if (limb[i] != other.limb[i]) {
                    return (limb[i] & Doubles.LOW) > (other.limb[i] & Doubles.LOW) ? 1 : -1;
                }
            }
            return 0;
        }

        void subtract(Whole other) {
            if (other.sign == 0) {
                return;
            }
            if (sign == 0) {
                copy(other);
                sign = -sign;
            } else if (sign != other.sign) {
                addSize(other);
            } else if (compareSize(other) >= 0) {
                lessSize(other, false);
            } else {
                lessSize(other, true);
                sign = -sign;
            }
        }

        /** Adds what another is without sign to what this is without sign. */
        void addSize(Whole other) {
            int n = Math.max(length, other.length);
            if (n + 1 > limb.length || other.sign == 0) {
                return;
            }
            long carry = 0;
            for (int i = 0; i < n; i++) {
                carry += i < length ? limb[i] & Doubles.LOW : 0;
                carry += i < other.length ? other.limb[i] & Doubles.LOW : 0;
                limb[i] = (int) carry;
                carry >>>= 32;
            }
            limb[n] = (int) carry;
            length = n + 1;
            sign = sign == 0 ? 1 : sign;
            trim();
        }

        /** The difference to another without signs, this one the greater, or (turned) the lesser. */
        void lessSize(Whole other, boolean turned) {
            int n = Math.min(Math.max(length, other.length), limb.length);
            long carry = 0;
            for (int i = 0; i < n; i++) {
                long mine = i < length ? limb[i] & Doubles.LOW : 0;
                long its = i < other.length ? other.limb[i] & Doubles.LOW : 0;
                carry += turned ? its - mine : mine - its;
                limb[i] = (int) carry;
                carry >>= 32;
            }
            length = n;
            trim();
        }

        /** Becomes x / odd, which has no rest; x is used up. Its limbs come from the lowest on. */
        void becomeQuotient(Whole x, Whole odd, int inverse) {
            zero();
            int n = x.length - odd.length + 1;
            if (odd.length == 0 || n < 1 || n > limb.length) {
                return;
            }
            for (int i = 0; i < n; i++) {
                int digit = x.limb[i] * inverse;
                limb[i] = digit;
                x.takeMultiple(odd, digit & Doubles.LOW, i, n);
            }
            length = n;
            sign = x.sign * odd.sign;
            trim();
        }

        /** Takes odd times digit from the limbs from i on, to before end: none above is looked at. */
        private void takeMultiple(Whole odd, long digit, int i, int end) {
            int n = Math.min(Math.min(odd.length, end - i), limb.length - i);
            long carry = 0;
            long borrow = 0;
            for (int j = 0; j < n; j++) {
                carry += digit * (odd.limb[j] & Doubles.LOW);
                long left = (limb[i + j] & Doubles.LOW) - (carry & Doubles.LOW) - borrow;
                limb[i + j] = (int) left;
                borrow = left < 0 ? 1 : 0;
                carry >>>= 32;
            }
            long rest = carry + borrow;
            for (int k = i + n; k < end && k < limb.length && rest != 0; k++) {
                long left = (limb[k] & Doubles.LOW) - rest;
                limb[k] = (int) left;
                rest = left < 0 ? (-left + Doubles.LOW) >>> 32 : 0;
            }
        }

        /** The inverse of the lowest limb, which is odd, modulo 2^32. */
        int inverseOfLowest() {
            int number = length == 0 ? 1 : limb[0];
            int inverse = number;
            for (int step = 0; step < 5; step++) {
                inverse *= 2 - number * inverse;
            }
            return inverse;
        }

        /** The 32 bits from 32 k on. */
        int digit(int k) {
            return k >= 0 && k < length ? limb[k] : 0;
        }
    }

    /** Exact elimination without fractions on whole numbers; each number in it is a minor. */
    private static final class Elimination {
        static final int ONE_SOLUTION = 2;
        private static final int STRIDE = 2 * MOST_ROWS;

        private final Whole[] table = new Whole[MOST_ROWS * STRIDE];
        private final Whole left = new Whole(true);
        private final Whole right = new Whole(true);
        private final Whole norm = new Whole(true);
        private final Whole divisor = new Whole(false);
        private final int[] pivotColumn = new int[MOST_ROWS];
        private final boolean[] isFree = new boolean[MOST_ROWS];
        private int rows;
        private int columns;
        private int all;
        private int unit;
        private int rank;
        private boolean turned;
        private int divisorShift;
        private int divisorInverse;

        Elimination() {
            for (int k = 0; k < table.length; k++) {
                table[k] = new Whole(false);
            }
        }

        private Whole at(int i, int j) {
            int k = i * STRIDE + j;
            return k >= 0 && k < table.length ? table[k] : table[0];
        }

        /** Loads a matrix (and a right side) as whole multiples of 2 to unit. */
        private void prepare(Matrix x, long[] r) {
            rows = x.rows;
            columns = x.columns;
            all = r == null ? columns : columns + 1;
            unit = 64;
            for (int i = 0; i < rows; i++) {
                for (int j = 0; j < columns; j++) {
                    lowerUnit(x.at(i, j));
                }
                lowerUnit(r == null || i >= r.length ? 0 : r[i]);
            }
            for (int i = 0; i < rows; i++) {
                for (int j = 0; j < columns; j++) {
                    loadNumber(at(i, j), x.at(i, j));
                }
                if (r != null && i < r.length) {
                    loadNumber(at(i, columns), r[i]);
                }
            }
        }

        private void lowerUnit(long bits) {
            long m = Doubles.mantissa(bits);
            if (m != 0) {
                unit = Math.min(unit, Doubles.scale(bits) + Doubles.lowestBit(m));
            }
        }

        private void loadNumber(Whole into, long bits) {
            long m = Doubles.mantissa(bits);
            int shift = Doubles.scale(bits) - unit;
            if (m == 0) {
                into.zero();
            } else if (shift >= 0) {
                into.become(m, shift, bits < 0 ? -1 : 1);
            } else {
                into.become(m >>> Math.min(-shift, 63), 0, bits < 0 ? -1 : 1);
            }
        }

        /** Puts 1 at i, i and else 0 behind the columns. */
        private void appendUnits() {
            for (int i = 0; i < rows; i++) {
                for (int j = 0; j < rows; j++) {
                    at(i, columns + j).become(i == j ? 1 : 0, 0, 1);
                }
            }
            all = columns + rows;
        }

        /** Eliminates below the pivots, or (whole) above them too. */
        private void eliminate(boolean whole) {
            rank = 0;
            turned = false;
            divisor.become(1, 0, 1);
            prepareDivisor();
            for (int c = 0; c < columns; c++) {
                int i = rowWithPivot(c);
                isFree[c] = i < 0;
                if (i < 0) {
                    continue;
                }
                exchangeRows(rank, i);
                pivotColumn[rank] = c;
                for (int k = whole ? 0 : rank + 1; k < rows; k++) {
                    if (k != rank) {
                        workRow(k, c);
                    }
                }
                divisor.copy(at(rank, c));
                prepareDivisor();
                rank++;
            }
        }

        private int rowWithPivot(int c) {
            for (int i = rank; i < rows; i++) {
                if (at(i, c).sign != 0) {
                    return i;
                }
            }
            return NONE;
        }

        private void exchangeRows(int p, int q) {
            if (p == q || p < 0 || p >= rows || q < 0 || q >= rows) {
                return;
            }
            for (int j = 0; j < all; j++) {
                Whole number = at(p, j);
                table[p * STRIDE + j] = at(q, j);
                table[q * STRIDE + j] = number;
            }
            turned = !turned;
        }

        private void prepareDivisor() {
            divisorShift = divisor.trailingZeros();
            divisor.shiftDown(divisorShift);
            divisorInverse = divisor.inverseOfLowest();
        }

        /** Row k less what makes its number in column c 0, over the pivot before. */
        private void workRow(int k, int c) {
            Whole pivot = at(rank, c);
            Whole side = at(k, c);
            for (int j = 0; j < all; j++) {
                Whole number = at(k, j);
                Whole top = at(rank, j);
                if (j == c || number.sign == 0 && (side.sign == 0 || top.sign == 0)) {
                    continue;
                }
                left.becomeProduct(pivot, number);
                right.becomeProduct(side, top);
                left.subtract(right);
                left.shiftDown(divisorShift);
                number.becomeQuotient(left, divisor, divisorInverse);
            }
            side.zero();
        }

        int rankOf(Matrix x) {
            prepare(x, null);
            eliminate(false);
            return rank;
        }

        /** 0 none, 1 many, or ONE_SOLUTION. */
        int solutions(Matrix x, long[] r) {
            prepare(x, r);
            eliminate(true);
            for (int i = rank; i < rows; i++) {
                if (at(i, columns).sign != 0) {
                    return 0;
                }
            }
            return rank < columns ? 1 : ONE_SOLUTION;
        }

        void writeSolution(long[] into) {
            for (int i = 0; i < rank && i < into.length; i++) {
                into[i] = quotient(at(i, columns), at(i, i), false);
            }
        }

        /** Writes null vector k; false if there is none such. */
        boolean writeNullVector(Matrix x, int k, long[] into) {
            prepare(x, null);
            eliminate(true);
            int column = freeColumn(k);
            if (column < 0) {
                return false;
            }
            for (int j = 0; j < columns; j++) {
                into[j] = j == column ? Doubles.ONE : 0;
            }
            for (int i = 0; i < rank; i++) {
                int c = pivotColumn[i];
                if (c >= 0 && c < into.length) {
                    into[c] = quotient(at(i, column), at(i, c), true);
                }
            }
            return true;
        }

        private int freeColumn(int k) {
            int seen = 0;
            for (int c = 0; c < columns; c++) {
                if (isFree[c] && seen++ == k) {
                    return c;
                }
            }
            return NONE;
        }

        /** x / y, or (turned) -x / y, as the nearest double. */
        private long quotient(Whole x, Whole y, boolean turned) {
            left.copy(x);
            right.copy(y);
            if (turned) {
                left.sign = -left.sign;
            }
            return ratio(0, false);
        }

        /** left / right times 2 to scale as a double; both are used up. */
        private long ratio(int scale, boolean up) {
            if (left.sign == 0 || right.sign == 0) {
                return 0;
            }
            boolean negative = left.sign != right.sign;
            int n = left.countBits();
            int d = right.countBits();
            left.shiftUp(d - n);
            right.shiftUp(n - d);
            long found = 0;
            for (int bit = 0; bit < 58; bit++) {
                found <<= 1;
                if (left.compareSize(right) >= 0) {
                    left.lessSize(right, false);
                    found++;
                }
                left.shiftUp(1);
            }
            return Doubles.rounded(negative, found, left.length != 0, n - d - 57 + scale, up);
        }

        /** The determinant, in units, comes to left. */
        private void determinantToLeft(Matrix x) {
            prepare(x, null);
            eliminate(false);
            left.zero();
            if (rank == rows) {
                left.copy(at(rows - 1, rows - 1));
                left.sign = turned ? -left.sign : left.sign;
            }
        }

        long determinantOf(Matrix x) {
            determinantToLeft(x);
            right.become(1, 0, 1);
            return ratio(rows * unit, false);
        }

        int determinantDigits(Matrix x, int k) {
            determinantToLeft(x);
            left.shiftUp(rows * (unit + LATTICE_DEPTH));
            return left.digit(k);
        }

        /** The condition, UP, or -1 without an inverse. */
        long conditionOf(Matrix x) {
            prepare(x, null);
            appendUnits();
            greatestRowSum(0);
            norm.copy(left);
            eliminate(true);
            if (rank < rows) {
                return -1;
            }
            greatestRowSum(columns);
            right.copy(left);
            left.becomeProduct(right, norm);
            right.copy(at(0, 0));
            right.sign = 1;
            return ratio(0, true);
        }

        /** The greatest sum without signs of the columns from start on comes to left. */
        private void greatestRowSum(int start) {
            left.zero();
            for (int i = 0; i < rows; i++) {
                right.zero();
                for (int j = start; j < start + columns; j++) {
                    right.addSize(at(i, j));
                }
                if (right.compareSize(left) > 0) {
                    left.copy(right);
                }
            }
        }
    }

    /** The order of rows by neighbours that the latest reordering found. */
    private static final class Ordering {
        private final int[] order = new int[MOST_ROWS];
        private final int[] row = new int[MOST_ROWS];
        private final int[] neighbours = new int[MOST_ROWS];
        private final boolean[] taken = new boolean[MOST_ROWS];
        private int n;
        private int filled;

        int rowAt(int k) {
            return k >= 0 && k < n ? order[k] : NONE;
        }

        void arrange(Matrix m) {
            n = m.rows;
            filled = 0;
            countNeighbours(m);
            int next = 0;
            for (int step = 0; step < n && filled < n; step++) {
                append(fewest(m, NONE));
                for (; next < filled && next < n; next++) {
                    appendNeighbours(m, row[next]);
                }
            }
            for (int k = 0; k < n; k++) {
                order[k] = row[n - 1 - k];
            }
            if (widthSo(m) > m.width()) {
                for (int k = 0; k < n; k++) {
                    order[k] = k;
                }
            }
        }

        private static boolean near(Matrix m, int i, int j) {
            return i != j && (m.at(i, j) != 0 || m.at(j, i) != 0);
        }

        private void countNeighbours(Matrix m) {
            for (int i = 0; i < n; i++) {
                taken[i] = false;
                neighbours[i] = 0;
                for (int j = 0; j < n; j++) {
                    neighbours[i] += near(m, i, j) ? 1 : 0;
                }
            }
        }

        /** Of all (v is NONE), or of the neighbours of v, that are not in the row, the first with the fewest. */
        private int fewest(Matrix m, int v) {
            int best = NONE;
            for (int i = 0; i < n; i++) {
                if (taken[i] || v != NONE && !near(m, v, i)) {
                    continue;
                }
                if (best == NONE || neighbours[i] < neighbours[best]) {
                    best = i;
                }
            }
            return best;
        }

        private void append(int i) {
            if (i >= 0 && i < n && filled < n) {
                taken[i] = true;
                row[filled] = i;
                filled++;
            }
        }

        private void appendNeighbours(Matrix m, int v) {
            for (int step = 0; step < n; step++) {
                append(fewest(m, v));
            }
        }

        private int widthSo(Matrix m) {
            int width = 0;
            for (int i = 0; i < n; i++) {
                for (int j = 0; j < n; j++) {
                    if (m.at(order[i], order[j]) != 0) {
                        width = Math.max(width, Math.abs(i - j));
                    }
                }
            }
            return width;
        }
    }

    /** The bytes that were packed latest, and the tape. */
    private static final class Tape {
        private static final int MOST = 600;
        private static final int HEAD = 6;
        private static final int MARK = 77;
        private static final int MODULUS = 65521;

        int length;
        private int packedLength;
        private int position;
        private final int[] bytes = new int[MOST];
        private final int[] packed = new int[MOST];

        boolean hasRoom(int more) {
            return length + more <= MOST;
        }

        /** Four bytes, the highest first, come behind the tape. */
        void append(int number) {
            for (int shift = 24; shift >= 0 && length < MOST; shift -= 8) {
                bytes[length] = number >>> shift & 255;
                length++;
            }
        }

        int packedAt(int i) {
            return i >= 0 && i < packedLength ? packed[i] : NONE;
        }

        int takePacked() {
            for (int i = 0; i < packedLength; i++) {
                bytes[i] = packed[i];
            }
            length = packedLength;
            return length;
        }

        private void write(int number) {
            if (packedLength < MOST) {
                packed[packedLength] = number & 255;
                packedLength++;
            }
        }

        private void writeNumber(long bits) {
            for (int shift = 56; shift >= 0; shift -= 8) {
                write((int) (bits >>> shift));
            }
        }

        /** Packs a matrix; how many bytes. */
        int writeMatrix(Matrix m) {
            packedLength = 0;
            write(MARK);
            write(m.form);
            write(m.rows);
            write(m.columns);
            write(m.a);
            write(m.b);
            boolean sparse = m.form == Matrix.SPARSE;
            if (sparse) {
                write(m.filled());
            }
            for (int i = 0; i < m.rows; i++) {
                for (int j = 0; j < m.columns; j++) {
                    if (sparse && m.at(i, j) != 0) {
                        write(i);
                        write(j);
                        writeNumber(m.at(i, j));
                    } else if (!sparse && m.hasPlace(i, j)) {
                        writeNumber(m.at(i, j));
                    }
                }
            }
            int check = checkOf(packed, packedLength);
            write(check >>> 8);
            write(check);
            return packedLength;
        }

        private static int checkOf(int[] row, int n) {
            int c = 1;
            for (int i = 0; i < n && i < row.length; i++) {
                c = (31 * c + row[i]) % MODULUS;
            }
            return c;
        }

        private int next() {
            if (position >= length) {
                return NONE;
            }
            position++;
            return bytes[position - 1];
        }

        private long nextNumber() {
            long bits = 0;
            for (int k = 0; k < 8; k++) {
                bits = bits << 8 | next() & 255;
            }
            return bits;
        }

        /** Reads the tape into the room for a matrix; false if it is no packed one. */
        boolean read(Matrix into) {
            if (length < HEAD + 2) {
                return false;
            }
            int check = checkOf(bytes, length - 2);
            if (bytes[length - 2] != check >>> 8 || bytes[length - 1] != (check & 255)) {
                return false;
            }
            position = 0;
            boolean marked = next() == MARK;
            int form = next();
            int rows = next();
            int columns = next();
            int a = next();
            int b = next();
            if (!marked || !Matrix.sound(form, rows, columns, a, b)) {
                return false;
            }
            into.begin(form, rows, columns, a, b);
            boolean read = form == Matrix.SPARSE ? readSparse(into) : readPlaces(into);
            return read && position == length - 2;
        }

        private boolean readPlaces(Matrix into) {
            for (int i = 0; i < into.rows; i++) {
                for (int j = 0; j < into.columns; j++) {
                    if (into.hasPlace(i, j) && !readNumber(into, i, j)) {
                        return false;
                    }
                }
            }
            return true;
        }

        private boolean readNumber(Matrix into, int i, int j) {
            if (position + 8 > length - 2) {
                return false;
            }
            long bits = nextNumber();
            into.store(i, j, bits);
            return Doubles.finite(bits) && bits != Doubles.SIGN;
        }

        private boolean readSparse(Matrix into) {
            int n = next();
            if (n < 0 || n > Matrix.MOST_SPARSE || position + 10 * n != length - 2) {
                return false;
            }
            int before = -1;
            for (int k = 0; k < n; k++) {
                int i = next();
                int j = next();
                int now = i * MOST_ROWS + j;
                if (!into.inside(i, j) || now <= before || !readNumber(into, i, j)) {
                    return false;
                }
                if (into.at(i, j) == 0) {
                    return false;
                }
                before = now;
            }
            return true;
        }
    }
}
