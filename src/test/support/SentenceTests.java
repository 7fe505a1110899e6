import java.util.Arrays;

/** What the tests share: a sentence of the document is a test of its own, and what it answers wrongly is printed. */
abstract class SentenceTests {
    static final int P = TelescopeDesk.P;
    static final int BAD = TelescopeDesk.BAD;
    static final int MIXED = TelescopeDesk.MIXED;
    static final int LIMIT = TelescopeDesk.LIMIT;
    static final int UNDEFINED = TelescopeDesk.UNDEFINED;
    static final int[] ZERO = {};
    static final int[] ONE = {1};

    /** The slots that the builders below use as they like and leave at zero. */
    static final int HELPER = 6;
    static final int OTHER_HELPER = 7;

    private static volatile String sentence = "";
    private static int sentences = 0;
    private static int asked = 0;
    private static int wrong = 0;

    /** What an argument may be: from the first to the last number. */
    enum Kind {
        SLOT(0, 7), RESIDUE(0, 10006), RATIO(1, 10006), POLE(0, 7), EXPONENT(1, 3), POWER(0, 31), PLACE(-30, 1000);

        final int first;
        final int last;

        Kind(int first, int last) {
            this.first = first;
            this.last = last;
        }

        /** Next to the edges, far away, and such as are right in their low bits. */
        int[] wrongOnes() {
            return new int[] {
                first - 1, last + 1, Integer.MIN_VALUE, Integer.MAX_VALUE, first + 65536, first - 65536, last + (1 << 30),
            };
        }

        int[] edges() {
            return new int[] {first, last};
        }

        /** A right one, another for each place of the call, so that telescope's d and r are apart. */
        int rightOne(int place) {
            return Math.min(last, (first + last) / 2 + place);
        }
    }

    static void test(String words, Runnable body) {
        if (sentences == 0) {
            Watch.start(() -> sentence);
        }
        sentence = words;
        sentences++;
        asked = 0;
        try {
            body.run();
        } catch (RuntimeException thrown) {
            fail("threw " + thrown);
        }
        if (asked == 0) {
            fail("nothing was asked");
        }
    }

    static void finish() {
        System.out.println(sentences + " sentences, " + wrong + " answers not as due");
        if (wrong != 0) {
            System.exit(1);
        }
    }

    private static void fail(String what) {
        wrong++;
        System.out.println(sentence + " | " + what);
    }

    static void due(String what, int got, int want) {
        asked++;
        if (got != want) {
            fail(what + " answered " + got + ", due is " + want);
        }
    }

    static void due(String what, boolean got, boolean want) {
        asked++;
        if (got != want) {
            fail(what + " answered " + got + ", due is " + want);
        }
    }

    static void dueCall(CountedDesk x, int want, String name, int... args) {
        due(name + Arrays.toString(args), x.call(name, args), want);
    }

    static void dueZero(CountedDesk x, int s) {
        dueTerm(x, s, 1, ZERO);
    }

    /** Slot s holds z^k (n[0] + n[1] k + ..) / D; the poles are given as b, e, b, e, .. */
    static void dueTerm(CountedDesk x, int s, int z, int[] n, int... poles) {
        int[] seen = x.look(s);
        due("ratio of slot " + s, seen[0], z);
        due("degree of slot " + s, seen[1], n.length - 1);
        for (int i = 0; i < 32; i++) {
            due("coefficient " + i + " of slot " + s, seen[2 + i], i < n.length ? n[i] : 0);
        }
        int[] exponents = new int[8];
        for (int i = 0; i < poles.length; i += 2) {
            exponents[poles[i]] = poles[i + 1];
        }
        for (int b = 0; b < 8; b++) {
            due("exponent " + b + " of slot " + s, seen[34 + b], exponents[b]);
        }
    }

    /** The call answers this code, and every slot is as before. */
    static void dueNothingChanged(CountedDesk x, int code, String name, int... args) {
        int[][] before = x.lookAtAll();
        dueCall(x, code, name, args);
        due("nothing is changed by " + name + Arrays.toString(args), Arrays.deepEquals(before, x.lookAtAll()), true);
    }

    /** Every slot but the ones named is as before. */
    static void dueOthersKept(CountedDesk x, int[][] before, int... named) {
        int[][] after = x.lookAtAll();
        for (int s = 0; s < 8; s++) {
            final int slot = s;
            if (Arrays.stream(named).noneMatch(one -> one == slot)) {
                due("slot " + s + " is kept", Arrays.equals(before[s], after[s]), true);
            }
        }
    }

    /** Each argument alone, and all together, being wrong gives the code and changes nothing; the edges are right. */
    static void dueRefusal(int code, String name, Kind... kinds) {
        int[] right = rightOnes(kinds);
        for (int place = 0; place < kinds.length; place++) {
            for (int one : kinds[place].wrongOnes()) {
                dueNothingChanged(fullDesk(), code, name, with(right, place, one));
            }
        }
        for (int which = 0; which < 2; which++) {
            int[] all = right.clone();
            for (int place = 0; place < kinds.length; place++) {
                all[place] = kinds[place].wrongOnes()[which];
            }
            dueNothingChanged(fullDesk(), code, name, all);
        }
    }

    /** No argument at its edge gives BAD. */
    static void dueEdgesTaken(String name, Kind... kinds) {
        int[] right = rightOnes(kinds);
        for (int place = 0; place < kinds.length; place++) {
            for (int one : kinds[place].edges()) {
                int[] args = with(right, place, one);
                due(name + Arrays.toString(args) + " is BAD", new CountedDesk().call(name, args) == BAD, false);
            }
        }
    }

    private static int[] rightOnes(Kind[] kinds) {
        int[] right = new int[kinds.length];
        for (int place = 0; place < kinds.length; place++) {
            right[place] = kinds[place].rightOne(place);
        }
        return right;
    }

    private static int[] with(int[] args, int place, int one) {
        int[] changed = args.clone();
        changed[place] = one;
        return changed;
    }

    /**
     * A desk with eight different terms: the slots 0 and 5 have the ratio 5, slot 1 has the pole 7, slot 2 is zero,
     * slot 3 has the ratio 10006, slot 4 the degree 31.
     */
    static CountedDesk fullDesk() {
        CountedDesk x = new CountedDesk();
        build(x, 0, 5, new int[] {7, 3, 1}, 0, 1, 2, 3);
        build(x, 1, 1, new int[] {4, 1}, 7, 2);
        build(x, 3, 10006, new int[] {12});
        build(x, 5, 5, ONE, 3, 1);
        raise(x, 4, 1, 31);
        x.linear(7, 9, 10000);
        x.pole(6, 1, 1);
        x.multiply(7, 7, 6);
        x.constant(6, 10006);
        return x;
    }

    /** Slot s, none of the helpers, becomes z^k (n[0] + n[1] k + ..) / D; the poles are given as b, e, b, e, .. */
    static void build(CountedDesk x, int s, int z, int[] n, int... poles) {
        dueCall(x, 0, "constant", s, n[n.length - 1]);
        for (int i = n.length - 2; i >= 0; i--) {
            dueCall(x, 0, "linear", HELPER, 1, 0);
            dueCall(x, 0, "multiply", s, s, HELPER);
            if (n[i] != 0) {
                dueCall(x, 0, "constant", HELPER, n[i]);
                dueCall(x, 0, "add", s, s, HELPER);
            }
        }
        for (int i = 0; i < poles.length; i += 2) {
            dueCall(x, 0, "pole", HELPER, poles[i], poles[i + 1]);
            dueCall(x, 0, "multiply", s, s, HELPER);
        }
        dueCall(x, 0, "power", HELPER, z);
        dueCall(x, 0, "multiply", s, s, HELPER);
        dueCall(x, 0, "constant", HELPER, 0);
    }

    /** Slot s, none of the helpers, gains z^k w / (k + b)^e. */
    static void addFraction(CountedDesk x, int s, int z, int b, int e, int w) {
        dueCall(x, 0, "pole", HELPER, b, e);
        dueCall(x, 0, "constant", OTHER_HELPER, w);
        dueCall(x, 0, "multiply", HELPER, HELPER, OTHER_HELPER);
        dueCall(x, 0, "power", OTHER_HELPER, z);
        dueCall(x, 0, "multiply", HELPER, HELPER, OTHER_HELPER);
        dueCall(x, 0, "add", s, s, HELPER);
        dueCall(x, 0, "constant", HELPER, 0);
        dueCall(x, 0, "constant", OTHER_HELPER, 0);
    }

    /** Slot s, none of the helpers, becomes (k + b)^times. */
    static void raise(CountedDesk x, int s, int b, int times) {
        dueCall(x, 0, "constant", s, 1);
        dueCall(x, 0, "linear", HELPER, 1, b);
        for (int left = times; left > 0; left /= 2) {
            if (left % 2 == 1) {
                dueCall(x, 0, "multiply", s, s, HELPER);
            }
            if (left > 1) {
                dueCall(x, 0, "multiply", HELPER, HELPER, HELPER);
            }
        }
        dueCall(x, 0, "constant", HELPER, 0);
    }

    /** The coefficients of (k + b)^times, by Pascal's rule. */
    static int[] powerOf(int b, int times) {
        long[] row = new long[times + 1];
        row[0] = 1;
        for (int turn = 0; turn < times; turn++) {
            for (int i = turn + 1; i > 0; i--) {
                row[i] = (row[i] * b + row[i - 1]) % P;
            }
            row[0] = row[0] * b % P;
        }
        return Arrays.stream(row).mapToInt(one -> (int) one).toArray();
    }

    static int raised(int base, int times) {
        long answer = 1;
        for (int i = 0; i < times; i++) {
            answer = Math.floorMod(answer * base, (long) P);
        }
        return (int) answer;
    }

    /** The one y with x y = 1, found by trying. */
    static int inverse(int x) {
        for (int y = 1; y < P; y++) {
            if (Math.floorMod((long) x * y, (long) P) == 1) {
                return y;
            }
        }
        throw new IllegalArgumentException("no inverse of " + x);
    }
}
