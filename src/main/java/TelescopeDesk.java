import java.util.Arrays;

/** A desk for sums in closed form over terms z^k N(k) / D(k) with residues modulo P. */
public final class TelescopeDesk {
    public static final int P = 10007;
    public static final int BAD = -9;
    public static final int MIXED = -8;
    public static final int LIMIT = -7;
    public static final int UNDEFINED = -6;

    private static final int SLOTS = 8;
    private static final int POLES = 8;
    private static final int MAX_EXPONENT = 3;
    private static final int MAX_DEGREE = 31;
    private static final int FIRST_PLACE = -30;
    private static final int LAST_PLACE = 1000;
    private static final int MINUS_ONE = P - 1;

    // A product reaches the degree 62, a difference before it is cancelled 31 + 27, a split 32 + 21.
    private static final int WORK_ROOM = 64;

    private final Term[] slots;
    private final Term result;
    private final Term remainder;
    private final Combiner combiner;
    private final Splitter splitter;

    public TelescopeDesk() {
        slots = new Term[SLOTS];
        for (int s = 0; s < SLOTS; s++) {
            slots[s] = new Term(MAX_DEGREE + 1);
        }
        result = new Term(WORK_ROOM);
        remainder = new Term(WORK_ROOM);
        combiner = new Combiner();
        splitter = new Splitter();
    }

    public int constant(int s, int c) {
        if (!isSlot(s) || !isResidue(c)) {
            return BAD;
        }
        result.clear();
        result.n.setLinear(0, c);
        return keepResult(s);
    }

    public int linear(int s, int a, int b) {
        if (!isSlot(s) || !isResidue(a) || !isResidue(b)) {
            return BAD;
        }
        result.clear();
        result.n.setLinear(a, b);
        return keepResult(s);
    }

    public int power(int s, int z) {
        if (!isSlot(s) || !isResidue(z) || z == 0) {
            return BAD;
        }
        result.clear();
        result.z = z;
        result.n.setLinear(0, 1);
        return keepResult(s);
    }

    public int pole(int s, int b, int e) {
        if (!isSlot(s) || !isPole(b) || !isPositiveExponent(e)) {
            return BAD;
        }
        result.clear();
        result.n.setLinear(0, 1);
        result.e[b] = e;
        return keepResult(s);
    }

    public int add(int d, int a, int b) {
        if (!isSlot(d) || !isSlot(a) || !isSlot(b)) {
            return BAD;
        }
        if (!slots[a].isZero() && !slots[b].isZero() && slots[a].z != slots[b].z) {
            return MIXED;
        }
        combiner.combine(result, slots[a], slots[b], 1);
        return keepResult(d);
    }

    public int multiply(int d, int a, int b) {
        if (!isSlot(d) || !isSlot(a) || !isSlot(b)) {
            return BAD;
        }
        result.becomeProduct(slots[a], slots[b]);
        return keepResult(d);
    }

    public int shift(int d, int a) {
        if (!isSlot(d) || !isSlot(a)) {
            return BAD;
        }
        result.becomeNext(slots[a]);
        return keepResult(d);
    }

    public int difference(int d, int a) {
        if (!isSlot(d) || !isSlot(a)) {
            return BAD;
        }
        combiner.subtractFromNext(result, slots[a]);
        return keepResult(d);
    }

    public int telescope(int d, int r, int a) {
        if (!isSlot(d) || !isSlot(r) || !isSlot(a) || d == r) {
            return BAD;
        }
        splitter.split(slots[a], result, remainder);
        if (result.isOver()) {
            return LIMIT;
        }
        slots[d].copyFrom(result);
        slots[r].copyFrom(remainder);
        return remainder.isZero() ? 1 : 0;
    }

    public boolean check(int d, int a) {
        if (!isSlot(d) || !isSlot(a)) {
            return false;
        }
        combiner.subtractFromNext(result, slots[d]);
        return !result.isOver() && result.matches(slots[a]);
    }

    public boolean same(int a, int b) {
        return isSlot(a) && isSlot(b) && slots[a].matches(slots[b]);
    }

    public int ratio(int s) {
        return isSlot(s) ? slots[s].z : BAD;
    }

    public int degree(int s) {
        return isSlot(s) ? slots[s].n.top : BAD;
    }

    public int coefficient(int s, int i) {
        if (!isSlot(s) || i < 0 || i > MAX_DEGREE) {
            return BAD;
        }
        return slots[s].n.c[i];
    }

    public int exponent(int s, int b) {
        return isSlot(s) && isPole(b) ? slots[s].e[b] : BAD;
    }

    public int weight(int s, int b, int e) {
        if (!isSlot(s) || !isPole(b) || !isPositiveExponent(e)) {
            return BAD;
        }
        return splitter.weightOf(slots[s], b, e);
    }

    public int value(int s, int k) {
        if (!isSlot(s) || !isPlace(k)) {
            return BAD;
        }
        return slots[s].isDefinedAt(k) ? slots[s].at(k) : UNDEFINED;
    }

    public int sum(int s, int u, int v) {
        if (!isSlot(s) || !isPlace(u) || !isPlace(v)) {
            return BAD;
        }
        int total = 0;
        for (int k = u; k <= v; k++) {
            if (!slots[s].isDefinedAt(k)) {
                return UNDEFINED;
            }
            total = (total + slots[s].at(k)) % P;
        }
        return total;
    }

    private int keepResult(int s) {
        if (result.isOver()) {
            return LIMIT;
        }
        slots[s].copyFrom(result);
        return 0;
    }

    private static boolean isSlot(int s) {
        return s >= 0 && s < SLOTS;
    }

    private static boolean isResidue(int c) {
        return c >= 0 && c < P;
    }

    private static boolean isPole(int b) {
        return b >= 0 && b < POLES;
    }

    private static boolean isPositiveExponent(int e) {
        return e >= 1 && e <= MAX_EXPONENT;
    }

    private static boolean isPlace(int k) {
        return k >= FIRST_PLACE && k <= LAST_PLACE;
    }

    /** Arithmetic modulo P that Java's operators do not give at once. */
    private static final class Residues {
        static int of(int whole) {
            return Math.floorMod(whole, P);
        }

        static int raise(int base, int times) {
            int answer = 1;
            int square = base;
            for (int left = times; left > 0; left >>= 1) {
                if ((left & 1) == 1) {
                    answer = answer * square % P;
                }
                square = square * square % P;
            }
            return answer;
        }

        /** The inverse by Fermat's theorem; 0 for 0, so that it never fails. */
        static int invert(int x) {
            return raise(x, P - 2);
        }
    }

    /** A polynomial in k. The coefficients above its degree, top, are always 0. */
    private static final class Poly {
        final int[] c;
        int top;

        Poly(int room) {
            c = new int[room];
            top = -1;
        }

        void clear() {
            Arrays.fill(c, 0);
            top = -1;
        }

        void setLinear(int a, int b) {
            clear();
            c[1] = a;
            c[0] = b;
            trim();
        }

        void copyFrom(Poly other) {
            for (int i = 0; i < c.length; i++) {
                c[i] = i < other.c.length ? other.c[i] : 0;
            }
            trim();
        }

        void trim() {
            top = c.length - 1;
            while (top >= 0 && c[top] == 0) {
                top--;
            }
        }

        boolean matches(Poly other) {
            if (top != other.top) {
                return false;
            }
            for (int i = 0; i <= top; i++) {
                if (c[i] != other.c[i]) {
                    return false;
                }
            }
            return true;
        }

        int at(int x) {
            int answer = 0;
            for (int i = top; i >= 0; i--) {
                answer = (answer * x + c[i]) % P;
            }
            return answer;
        }

        void scale(int factor) {
            for (int i = 0; i <= top; i++) {
                c[i] = c[i] * factor % P;
            }
            trim();
        }

        void addScaled(Poly other, int factor) {
            int shared = Math.min(c.length, other.c.length);
            for (int i = 0; i < shared; i++) {
                c[i] = (c[i] + other.c[i] * factor) % P;
            }
            trim();
        }

        void becomeProduct(Poly a, Poly b) {
            clear();
            for (int i = 0; i <= a.top; i++) {
                for (int j = 0; j <= b.top && i + j < c.length; j++) {
                    c[i + j] = (c[i + j] + a.c[i] * b.c[j]) % P;
                }
            }
            trim();
        }

        /** Multiplies by (k + b)^times. */
        void multiplyBy(int b, int times) {
            for (int turn = 0; turn < times; turn++) {
                for (int i = Math.min(top + 1, c.length - 1); i > 0; i--) {
                    c[i] = (c[i] * b + c[i - 1]) % P;
                }
                c[0] = c[0] * b % P;
                trim();
            }
        }

        /** Divides by k + b, keeps the quotient and answers the rest, which is the value at -b. */
        int divideBy(int b) {
            int root = Residues.of(-b);
            int carry = 0;
            for (int i = top; i >= 0; i--) {
                int next = (carry * root + c[i]) % P;
                c[i] = carry;
                carry = next;
            }
            trim();
            return carry;
        }

        /** Puts k + 1 for k. */
        void moveOn() {
            for (int i = 0; i < top; i++) {
                for (int j = top - 1; j >= i; j--) {
                    c[j] = (c[j] + c[j + 1]) % P;
                }
            }
        }
    }

    /** z^k n(k) / product of (k + b)^e[b]; e[8] is there for what a shift leaves before it is looked at. */
    private static final class Term {
        final Poly n;
        final int[] e;
        int z;

        Term(int room) {
            n = new Poly(room);
            e = new int[POLES + 1];
            z = 1;
        }

        void clear() {
            n.clear();
            Arrays.fill(e, 0);
            z = 1;
        }

        void copyFrom(Term other) {
            n.copyFrom(other.n);
            System.arraycopy(other.e, 0, e, 0, e.length);
            z = other.z;
        }

        boolean isZero() {
            return n.top < 0;
        }

        boolean isOver() {
            for (int b = 0; b < POLES; b++) {
                if (e[b] > MAX_EXPONENT) {
                    return true;
                }
            }
            return n.top > MAX_DEGREE || e[POLES] > 0;
        }

        boolean matches(Term other) {
            for (int b = 0; b <= POLES; b++) {
                if (e[b] != other.e[b]) {
                    return false;
                }
            }
            return z == other.z && n.matches(other.n);
        }

        boolean isDefinedAt(int k) {
            for (int b = 0; b < POLES; b++) {
                if (e[b] > 0 && k + b == 0) {
                    return false;
                }
            }
            return true;
        }

        int at(int k) {
            int below = 1;
            for (int b = 0; b < POLES; b++) {
                int factor = Residues.of(k + b);
                below = below * Residues.raise(factor, e[b]) % P;
            }
            int base = k < 0 ? Residues.invert(z) : z;
            int above = Residues.raise(base, Math.abs(k)) * n.at(Residues.of(k)) % P;
            return above * Residues.invert(below) % P;
        }

        void normalise() {
            if (isZero()) {
                clear();
                return;
            }
            for (int b = 0; b <= POLES; b++) {
                int root = Residues.of(-b);
                while (e[b] > 0 && n.at(root) == 0) {
                    n.divideBy(b);
                    e[b]--;
                }
            }
        }

        void becomeProduct(Term a, Term b) {
            z = a.z * b.z % P;
            n.becomeProduct(a.n, b.n);
            for (int i = 0; i <= POLES; i++) {
                e[i] = a.e[i] + b.e[i];
            }
            normalise();
        }

        /** Becomes t(k + 1), where t has no pole at 8, as no term of a slot has. */
        void becomeNext(Term t) {
            z = t.z;
            n.copyFrom(t.n);
            n.moveOn();
            n.scale(z);
            e[0] = 0;
            System.arraycopy(t.e, 0, e, 1, POLES);
        }
    }

    /** Sums over a common denominator. */
    private static final class Combiner {
        private final Term next;
        private final Poly widened;

        Combiner() {
            next = new Term(WORK_ROOM);
            widened = new Poly(WORK_ROOM);
        }

        /** a + factor * b, where the ratios are equal or one of the two is zero. */
        void combine(Term into, Term a, Term b, int factor) {
            into.z = a.isZero() ? b.z : a.z;
            for (int i = 0; i <= POLES; i++) {
                into.e[i] = Math.max(a.e[i], b.e[i]);
            }
            into.n.clear();
            addWidened(into, a, 1);
            addWidened(into, b, factor);
            into.normalise();
        }

        void subtractFromNext(Term into, Term t) {
            next.becomeNext(t);
            combine(into, next, t, MINUS_ONE);
        }

        private void addWidened(Term into, Term t, int factor) {
            widened.copyFrom(t.n);
            for (int i = 0; i <= POLES; i++) {
                widened.multiplyBy(i, into.e[i] - t.e[i]);
            }
            into.n.addScaled(widened, factor);
        }
    }

    /** Partial fractions, and the split of a term into a difference and a remainder. */
    private static final class Splitter {
        private final int[] series;
        private final int[] parts;
        private final Poly rest;
        private final Poly step;
        private final Poly whole;

        Splitter() {
            series = new int[MAX_EXPONENT];
            parts = new int[POLES * MAX_EXPONENT];
            rest = new Poly(WORK_ROOM);
            step = new Poly(WORK_ROOM);
            whole = new Poly(WORK_ROOM);
        }

        int weightOf(Term t, int b, int e) {
            expandAt(t, b);
            return expandedWeight(t, b, e);
        }

        void split(Term t, Term into, Term remainder) {
            splitPoles(t, remainder);
            splitWhole(t);
            gather(t.z, into);
        }

        /** Puts the powers 0, 1, 2 of k + b in t * (k + b)^e(b), without z^k, into series. */
        private void expandAt(Term t, int b) {
            rest.copyFrom(t.n);
            for (int i = 0; i < MAX_EXPONENT; i++) {
                series[i] = rest.divideBy(b);
            }
            for (int other = 0; other < POLES; other++) {
                for (int turn = 0; other != b && turn < t.e[other]; turn++) {
                    divideSeries(Residues.of(other - b));
                }
            }
        }

        /** Divides the series in x by x + distance. */
        private void divideSeries(int distance) {
            int inverse = Residues.invert(distance);
            int before = 0;
            for (int i = 0; i < MAX_EXPONENT; i++) {
                series[i] = Residues.of(series[i] - before) * inverse % P;
                before = series[i];
            }
        }

        private int expandedWeight(Term t, int b, int e) {
            int i = t.e[b] - e;
            return i >= 0 && i < MAX_EXPONENT ? series[i] : 0;
        }

        /**
         * Since k + 8 may not stay in a denominator, r(7, e) = 0, and w(b, e) = z * r(b - 1, e) - r(b, e)
         * gives the other r from there downwards; what is left at the pole 0 is the remainder.
         */
        private void splitPoles(Term t, Term remainder) {
            int inverse = Residues.invert(t.z);
            remainder.clear();
            remainder.z = t.z;
            remainder.e[0] = MAX_EXPONENT;
            Arrays.fill(parts, 0);
            for (int b = POLES - 1; b >= 0; b--) {
                expandAt(t, b);
                for (int e = 1; e <= MAX_EXPONENT; e++) {
                    int moved = (expandedWeight(t, b, e) + parts[partIndex(b, e)]) % P;
                    if (b > 0) {
                        parts[partIndex(b - 1, e)] = moved * inverse % P;
                    } else {
                        remainder.n.c[MAX_EXPONENT - e] = moved;
                    }
                }
            }
            remainder.n.trim();
            remainder.normalise();
        }

        /** Solves z * X(k + 1) - X(k) = W(k), W being the whole part of t, from the highest power down. */
        private void splitWhole(Term t) {
            rest.copyFrom(t.n);
            for (int b = 0; b < POLES; b++) {
                for (int turn = 0; turn < t.e[b]; turn++) {
                    rest.divideBy(b);
                }
            }
            whole.clear();
            for (int i = rest.top; i >= 0; i--) {
                // With z = 1 the highest powers cancel, so that the difference of k^j begins with j * k^(j - 1).
                int j = t.z == 1 ? i + 1 : i;
                int lead = t.z == 1 ? j : t.z - 1;
                whole.c[j] = rest.c[i] * Residues.invert(lead) % P;
                setDifferenceOfPower(t.z, j);
                rest.addScaled(step, Residues.of(-whole.c[j]));
            }
            whole.trim();
        }

        private void setDifferenceOfPower(int z, int j) {
            step.setLinear(0, z);
            step.multiplyBy(1, j);
            step.c[j] = Residues.of(step.c[j] - 1);
            step.trim();
        }

        /** Brings whole and parts over one denominator. */
        private void gather(int z, Term into) {
            into.clear();
            into.z = z;
            for (int b = 0; b < POLES; b++) {
                for (int e = 1; e <= MAX_EXPONENT; e++) {
                    if (parts[partIndex(b, e)] != 0) {
                        into.e[b] = e;
                    }
                }
            }
            into.n.copyFrom(whole);
            multiplyByPoles(into.n, into.e, 0, 0);
            for (int b = 0; b < POLES; b++) {
                for (int e = 1; e <= into.e[b]; e++) {
                    step.setLinear(0, parts[partIndex(b, e)]);
                    multiplyByPoles(step, into.e, b, e);
                    into.n.addScaled(step, 1);
                }
            }
            into.normalise();
        }

        /** Multiplies by the denominator with the exponents given, without (k + left)^times. */
        private static void multiplyByPoles(Poly poly, int[] exponents, int left, int times) {
            for (int b = 0; b < POLES; b++) {
                poly.multiplyBy(b, b == left ? exponents[b] - times : exponents[b]);
            }
        }

        private static int partIndex(int b, int e) {
            return b * MAX_EXPONENT + e - 1;
        }
    }
}
