import java.util.Arrays;

/**
 * Long runs of calls beside a model that works by other means: it evaluates at many places, interpolates, and
 * solves linear systems, where the desk works on coefficients. The choice of calls comes from a fixed seed.
 */
public final class ModelTests {
    private static final int P = TelescopeDesk.P;
    private static final int RUNS = 150;
    /** The most calls that a step of a run makes: all weights of a slot. */
    private static final int STEP = 24;
    /** How many calls it takes to read all slots. */
    private static final int READING = 8 * 42;
    /** Places of evaluation, all away from the poles; 62 + 9 * 6 is the highest degree that is interpolated. */
    private static final int PLACES = 130;
    private static final int FIRST = 20;
    private static final int[] RATIOS = {1, 1, 1, 2, 5004, 10006, 3};

    private static long seed = 20240607L;
    private static int wrong = 0;
    private static final int[] answers = new int[10];

    public static void main(String[] args) {
        Watch.start(() -> "the runs beside the model");
        for (int run = 0; run < RUNS; run++) {
            oneRun(run);
        }
        System.out.println("answers seen: 0 " + answers[0] + ", 1 " + answers[1] + ", BAD " + answers[9] + ", MIXED "
                + answers[8] + ", LIMIT " + answers[7] + ", UNDEFINED " + answers[6]);
        for (int code : new int[] {0, 1, 6, 7, 8, 9}) {
            if (answers[code] < 50) {
                wrong++;
                System.out.println("code " + code + " was seen too seldom");
            }
        }
        System.out.println(wrong == 0 ? "the desk is as the model" : wrong + " answers are not as the model's");
        if (wrong != 0) {
            System.exit(1);
        }
    }

    private static void oneRun(int run) {
        CountedDesk desk = new CountedDesk();
        Term[] slots = new Term[8];
        Arrays.fill(slots, Term.zero());
        while (desk.calls() + STEP <= CountedDesk.MOST_CALLS && wrong < 20) {
            String where = "run " + run + " call " + desk.calls() + ": ";
            int kind = pick(10);
            if (kind == 0) {
                build(where, desk, slots, slot(), pick(5));
            } else if (kind < 6) {
                enrich(where, desk, slots);
            } else if (kind < 8) {
                rework(where, desk, slots);
            } else {
                read(where, desk, slots);
            }
            compareSome(where, desk, slots);
        }
    }

    /** All slots while the calls of one object last for it, then one of them, as long as they last for that. */
    private static void compareSome(String where, CountedDesk desk, Term[] slots) {
        CountedDesk copy = desk.copy();
        if (copy.calls() + READING <= CountedDesk.MOST_CALLS) {
            for (int s = 0; s < 8; s++) {
                compare(where, copy, s, slots[s]);
            }
        } else if (copy.calls() + READING / 8 <= CountedDesk.MOST_CALLS) {
            int s = pick(8);
            compare(where, copy, s, slots[s]);
        }
    }

    /** Lets a slot grow by factors and summands, since calls chosen at large mostly end in zero or a constant. */
    private static void enrich(String where, CountedDesk desk, Term[] slots) {
        int into = pick(4);
        if (slots[into].isZero()) {
            build(where, desk, slots, into, 3);
        }
        build(where, desk, slots, 7, pick(3) == 0 ? 4 : 1 + pick(2));
        if (pick(3) == 0) {
            int z = slots[into].z;
            due(where + "ratio " + z, desk.power(6, z), 0);
            slots[6] = Term.of(z, new long[] {1}, new int[9]);
            keep(where + "multiply", desk.multiply(7, 6, 7), false, false, Term.product(slots[6], slots[7]), slots, 7);
            boolean mixed = !slots[into].isZero() && !slots[7].isZero() && slots[into].z != slots[7].z;
            Term sum = mixed ? null : Term.combine(slots[into], slots[7], 1);
            keep(where + "add", desk.add(into, into, 7), false, mixed, sum, slots, into);
        } else {
            Term product = Term.product(slots[into], slots[7]);
            keep(where + "multiply", desk.multiply(into, 7, into), false, false, product, slots, into);
        }
    }

    private static void build(String where, CountedDesk desk, Term[] slots, int s, int kind) {
        int z = RATIOS[pick(RATIOS.length)];
        int b = pick(40) == 0 ? 8 : pick(8);
        int e = pick(40) == 0 ? 4 : 1 + pick(3);
        int c = pick(3) == 0 ? P - 1 : pick(40) == 0 ? P : pick(P);
        Term want = Term.zero();
        boolean bad = s < 0 || s > 7;
        int got;
        if (kind == 0) {
            got = desk.constant(s, c);
            bad |= c == P;
            want = Term.of(1, new long[] {c % P}, new int[9]);
        } else if (kind == 1 || kind == 2) {
            got = desk.linear(s, kind == 1 ? 1 : c, b);
            bad |= kind == 2 && c == P;
            want = Term.of(1, new long[] {b, kind == 1 ? 1 : c % P}, new int[9]);
        } else if (kind == 3) {
            got = desk.power(s, z);
            want = Term.of(z, new long[] {1}, new int[9]);
        } else {
            got = desk.pole(s, b, e);
            bad |= b > 7 || e > 3;
            int[] exponents = new int[9];
            exponents[b] = e;
            want = Term.of(1, new long[] {1}, exponents);
        }
        due(where + "build " + kind, got, bad ? TelescopeDesk.BAD : 0);
        if (!bad) {
            slots[s] = want;
        }
    }

    private static void rework(String where, CountedDesk desk, Term[] slots) {
        int d = pick(3) > 0 ? 4 + pick(2) : slot();
        int a = pick(2) > 0 ? pick(4) : slot();
        int b = slot();
        boolean bad2 = d < 0 || d > 7 || a < 0 || a > 7;
        boolean bad3 = bad2 || b < 0 || b > 7;
        switch (pick(6)) {
            case 0 -> {
                boolean mixed = !bad3 && !slots[a].isZero() && !slots[b].isZero() && slots[a].z != slots[b].z;
                Term sum = bad3 || mixed ? null : Term.combine(slots[a], slots[b], 1);
                keep(where + "add", desk.add(d, a, b), bad3, mixed, sum, slots, d);
            }
            case 1, 2 -> {
                Term product = bad3 ? null : Term.product(slots[a], slots[b]);
                keep(where + "multiply", desk.multiply(d, a, b), bad3, false, product, slots, d);
            }
            case 3 -> {
                Term next = bad2 ? null : slots[a].next();
                keep(where + "shift", desk.shift(d, a), bad2, false, next, slots, d);
            }
            case 4 -> {
                Term difference = bad2 ? null : slots[a].difference();
                keep(where + "difference", desk.difference(d, a), bad2, false, difference, slots, d);
            }
            default -> telescope(where, desk, slots, d, b, a);
        }
    }

    private static void keep(
            String where, int got, boolean bad, boolean mixed, Term want, Term[] slots, int d) {
        int code = bad ? TelescopeDesk.BAD : mixed ? TelescopeDesk.MIXED : want.isOver() ? TelescopeDesk.LIMIT : 0;
        due(where, got, code);
        if (code == 0) {
            slots[d] = want;
        }
    }

    private static void telescope(String where, CountedDesk desk, Term[] slots, int d, int r, int a) {
        int got = desk.telescope(d, r, a);
        if (Math.min(d, Math.min(r, a)) < 0 || Math.max(d, Math.max(r, a)) > 7 || d == r) {
            due(where + "telescope", got, TelescopeDesk.BAD);
            return;
        }
        Term[] parts = slots[a].split();
        if (parts[0].isOver()) {
            due(where + "telescope", got, TelescopeDesk.LIMIT);
            return;
        }
        due(where + "telescope", got, parts[1].isZero() ? 1 : 0);
        slots[d] = parts[0];
        slots[r] = parts[1];
    }

    private static void read(String where, CountedDesk desk, Term[] slots) {
        int s = pick(2) > 0 ? pick(4) : slot();
        int a = slot();
        boolean bad = s < 0 || s > 7;
        boolean bad2 = bad || a < 0 || a > 7;
        switch (pick(4)) {
            case 0 -> due(where + "check", desk.check(s, a) ? 1 : 0,
                    !bad2 && !slots[s].difference().isOver() && slots[s].difference().sameAs(slots[a]) ? 1 : 0);
            case 1 -> {
                int k = pick(2) == 0 ? pick(1033) - 31 : pick(20) - 10;
                due(where + "value", desk.value(s, k), bad ? TelescopeDesk.BAD : slots[s].value(k));
            }
            case 2 -> {
                int u = pick(2) == 0 ? pick(1033) - 31 : pick(20) - 10;
                int v = pick(1033) - 31;
                due(where + "sum", desk.sum(s, u, v), bad ? TelescopeDesk.BAD : slots[s].sum(u, v));
            }
            default -> weights(where, desk, slots, s);
        }
    }

    private static void weights(String where, CountedDesk desk, Term[] slots, int s) {
        boolean bad = s < 0 || s > 7;
        long[] want = bad ? new long[24] : slots[s].weights();
        for (int i = 0; i < 24; i++) {
            due(where + "weight " + i, desk.weight(s, i / 3, i % 3 + 1), bad ? TelescopeDesk.BAD : (int) want[i]);
        }
    }

    private static void compare(String where, CountedDesk desk, int s, Term want) {
        int[] seen = desk.read(s);
        boolean alike = seen[0] == want.z && seen[1] == want.n.length - 1;
        for (int i = 0; i < 32; i++) {
            alike &= seen[2 + i] == (i < want.n.length ? want.n[i] : 0);
        }
        for (int b = 0; b < 8; b++) {
            alike &= seen[34 + b] == want.e[b];
        }
        if (!alike) {
            wrong++;
            System.out.println(where + "slot " + s + " is not " + want.z + "^k " + Arrays.toString(want.n) + " / "
                    + Arrays.toString(want.e));
        }
    }

    private static void due(String what, int got, int want) {
        answers[Math.abs(want) % 10] += want <= 1 && want >= -9 ? 1 : 0;
        if (got != want) {
            wrong++;
            System.out.println(what + " answered " + got + ", the model " + want);
        }
    }

    private static int slot() {
        return pick(60) == 0 ? (pick(2) == 0 ? -1 : 8) : pick(8);
    }

    private static int pick(int bound) {
        seed = seed * 6364136223846793005L + 1442695040888963407L;
        return (int) ((seed >>> 33) % bound);
    }

    private static long raise(long base, int times) {
        long answer = 1;
        for (int bit = 30; bit >= 0; bit--) {
            answer = answer * answer % P;
            if ((times >> bit & 1) == 1) {
                answer = answer * base % P;
            }
        }
        return answer;
    }

    private static long inverse(long x) {
        return raise(Math.floorMod(x, P), P - 2);
    }

    /** A term in normal form; n is without leading zeros, e has a place for the pole 8. */
    private static final class Term {
        final int z;
        final long[] n;
        final int[] e;

        private Term(int z, long[] n, int[] e) {
            this.z = z;
            this.n = n;
            this.e = e;
        }

        static Term zero() {
            return new Term(1, new long[0], new int[9]);
        }

        static Term of(int z, long[] numerator, int[] exponents) {
            int length = numerator.length;
            while (length > 0 && numerator[length - 1] == 0) {
                length--;
            }
            if (length == 0) {
                return zero();
            }
            long[] n = Arrays.copyOf(numerator, length);
            int[] e = exponents.clone();
            for (int b = 0; b < 9; b++) {
                while (e[b] > 0 && horner(n, -b) == 0) {
                    n = quotient(n, -b);
                    e[b]--;
                }
            }
            return new Term(z, n, e);
        }

        static long horner(long[] n, int k) {
            long answer = 0;
            for (int i = n.length - 1; i >= 0; i--) {
                answer = Math.floorMod(answer * k + n[i], (long) P);
            }
            return answer;
        }

        static long[] quotient(long[] n, int root) {
            long[] q = new long[n.length - 1];
            long carry = 0;
            for (int i = n.length - 1; i > 0; i--) {
                carry = Math.floorMod(carry * root + n[i], (long) P);
                q[i - 1] = carry;
            }
            return q;
        }

        /** N(k) / D(k), without z^k. */
        long part(int k) {
            long below = 1;
            for (int b = 0; b < 9; b++) {
                for (int i = 0; i < e[b]; i++) {
                    below = Math.floorMod(below * (k + b), (long) P);
                }
            }
            return horner(n, k) * inverse(below) % P;
        }

        boolean isZero() {
            return n.length == 0;
        }

        boolean isOver() {
            return n.length > 32 || e[8] > 0 || Arrays.stream(e).max().getAsInt() > 3;
        }

        boolean sameAs(Term other) {
            return z == other.z && Arrays.equals(n, other.n) && Arrays.equals(e, other.e);
        }

        static Term product(Term a, Term b) {
            long[] values = new long[PLACES];
            for (int i = 0; i < PLACES; i++) {
                values[i] = a.part(FIRST + i) * b.part(FIRST + i) % P;
            }
            return fromValues((int) ((long) a.z * b.z % P), values);
        }

        static Term combine(Term a, Term b, int factor) {
            long[] values = new long[PLACES];
            for (int i = 0; i < PLACES; i++) {
                values[i] = Math.floorMod(a.part(FIRST + i) + factor * b.part(FIRST + i), (long) P);
            }
            return fromValues(a.isZero() ? b.z : a.z, values);
        }

        Term next() {
            long[] values = new long[PLACES];
            for (int i = 0; i < PLACES; i++) {
                values[i] = z * part(FIRST + i + 1) % P;
            }
            return fromValues(z, values);
        }

        Term difference() {
            return combine(next(), this, -1);
        }

        /** The term with these values at the places, without z^k, over the denominator of all (k + b)^6. */
        static Term fromValues(int z, long[] values) {
            long[] raised = new long[PLACES];
            for (int i = 0; i < PLACES; i++) {
                raised[i] = values[i];
                for (int b = 0; b < 9; b++) {
                    raised[i] = raised[i] * raise(FIRST + i + b, 6) % P;
                }
            }
            int[] e = new int[9];
            Arrays.fill(e, 6);
            return of(z, interpolate(raised), e);
        }

        /** Newton's divided differences. */
        static long[] interpolate(long[] values) {
            long[] d = values.clone();
            for (int level = 1; level < PLACES; level++) {
                long over = inverse(level);
                for (int i = PLACES - 1; i >= level; i--) {
                    d[i] = Math.floorMod(d[i] - d[i - 1], (long) P) * over % P;
                }
            }
            long[] answer = new long[PLACES];
            for (int i = PLACES - 1; i >= 0; i--) {
                for (int j = PLACES - 1; j >= 0; j--) {
                    long lower = j > 0 ? answer[j - 1] : 0;
                    answer[j] = Math.floorMod(lower - answer[j] * (FIRST + i), (long) P);
                }
                answer[0] = (answer[0] + d[i]) % P;
            }
            return answer;
        }

        /** Finds X, r and c from t(k) = T(k + 1) - T(k) + remainder at many places. */
        Term[] split() {
            int from = z == 1 ? 1 : 0;
            int powers = 41 - from;
            long[][] rows = new long[PLACES][powers + 27 + 1];
            for (int i = 0; i < PLACES; i++) {
                int k = FIRST + i;
                for (int p = 0; p < powers; p++) {
                    rows[i][p] = Math.floorMod(z * raise(k + 1, p + from) - raise(k, p + from), (long) P);
                }
                for (int q = 0; q < 24; q++) {
                    long after = inverse(raise(k + 1 + q / 3, q % 3 + 1));
                    long now = inverse(raise(k + q / 3, q % 3 + 1));
                    rows[i][powers + q] = Math.floorMod(z * after - now, (long) P);
                }
                for (int e = 1; e <= 3; e++) {
                    rows[i][powers + 23 + e] = inverse(raise(k, e));
                }
                rows[i][powers + 27] = part(k);
            }
            long[] found = solve(rows, powers + 27);
            return new Term[] {sumTerm(found, powers, from), remainderTerm(found, powers)};
        }

        private Term sumTerm(long[] found, int powers, int from) {
            long[] values = new long[PLACES];
            for (int i = 0; i < PLACES; i++) {
                int k = FIRST + i;
                for (int p = 0; p < powers; p++) {
                    values[i] += found[p] * raise(k, p + from) % P;
                }
                for (int q = 0; q < 24; q++) {
                    values[i] += found[powers + q] * inverse(raise(k + q / 3, q % 3 + 1)) % P;
                }
                values[i] %= P;
            }
            return fromValues(z, values);
        }

        private Term remainderTerm(long[] found, int powers) {
            int[] e = new int[9];
            e[0] = 3;
            return of(z, new long[] {found[powers + 26], found[powers + 25], found[powers + 24]}, e);
        }

        long[] weights() {
            long[][] rows = new long[PLACES][32 + 24 + 1];
            for (int i = 0; i < PLACES; i++) {
                int k = FIRST + i;
                for (int p = 0; p < 32; p++) {
                    rows[i][p] = raise(k, p);
                }
                for (int q = 0; q < 24; q++) {
                    rows[i][32 + q] = inverse(raise(k + q / 3, q % 3 + 1));
                }
                rows[i][56] = part(k);
            }
            return Arrays.copyOfRange(solve(rows, 56), 32, 56);
        }

        /** The one solution of the rows, whose last element is the right side. */
        static long[] solve(long[][] rows, int unknowns) {
            for (int u = 0; u < unknowns; u++) {
                int pivot = u;
                while (rows[pivot][u] == 0) {
                    pivot++;
                }
                long[] swap = rows[pivot];
                rows[pivot] = rows[u];
                rows[u] = swap;
                long over = inverse(rows[u][u]);
                for (int j = u; j <= unknowns; j++) {
                    rows[u][j] = rows[u][j] * over % P;
                }
                for (int i = 0; i < rows.length; i++) {
                    long factor = rows[i][u];
                    for (int j = u; i != u && factor != 0 && j <= unknowns; j++) {
                        rows[i][j] = Math.floorMod(rows[i][j] - factor * rows[u][j], (long) P);
                    }
                }
            }
            for (int i = unknowns; i < rows.length; i++) {
                if (rows[i][unknowns] != 0) {
                    throw new IllegalStateException("the model's system has no solution");
                }
            }
            long[] found = new long[unknowns];
            for (int u = 0; u < unknowns; u++) {
                found[u] = rows[u][unknowns];
            }
            return found;
        }

        int value(int k) {
            if (k < -30 || k > 1000) {
                return TelescopeDesk.BAD;
            }
            if (k <= 0 && k > -8 && e[-k] > 0) {
                return TelescopeDesk.UNDEFINED;
            }
            long factor = k < 0 ? raise(inverse(z), -k) : raise(z, k);
            return (int) (factor * part(k) % P);
        }

        int sum(int u, int v) {
            if (u < -30 || u > 1000 || v < -30 || v > 1000) {
                return TelescopeDesk.BAD;
            }
            int total = 0;
            for (int k = u; k <= v; k++) {
                int one = value(k);
                if (one < 0) {
                    return one;
                }
                total = (total + one) % P;
            }
            return total;
        }
    }
}
