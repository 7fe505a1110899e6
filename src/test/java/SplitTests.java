import java.util.Arrays;

/** SPLITTING and the promises 10 and 11, a sentence at a time. */
public final class SplitTests extends SentenceTests {
    private static final int[] RATIOS = {1, 2, 5, 5004, 10006};

    public static void main(String[] args) {
        splitting();
        telescoping();
        checking();
        finish();
    }

    private static void splitting() {
        test("Splitting: t(k) = T(k + 1) - T(k) + remainder, for each pole", SplitTests::eachPoleComesBack);
        test("Splitting: t(k) = T(k + 1) - T(k) + remainder, for all poles at once", SplitTests::allPolesComeBack);
        test("Splitting: t(k) = T(k + 1) - T(k), for each power of k", SplitTests::eachPowerComesBack);
        test("Splitting: r(b, e) and c1, c2, c3 of each pole", SplitTests::partsOfEachPole);
        test("Splitting: c1, c2, c3 stand beside one another", SplitTests::remainderOfThree);
        test("Splitting: the constant coefficient of X is 0 if z = 1", SplitTests::noConstantWithRatioOne);
        test("Splitting: the constant coefficient of X is kept if z is not 1", SplitTests::constantWithOtherRatio);
        test("Splitting: a difference is split into what it is the difference of", SplitTests::differenceIsUndone);
        test("Splitting: for the term zero, T and the remainder are zero", SplitTests::splitZero);
    }

    private static void telescoping() {
        test("Promise 10: slot d becomes T, slot r the remainder", SplitTests::telescope);
        test("Promise 10: only the slots d and r change", SplitTests::telescopeKeepsOthers);
        test("Promise 10: answers 1 when the remainder is zero", SplitTests::telescopeAnswersOne);
        test("Promise 10: answers 0 when the remainder is not zero", SplitTests::telescopeAnswersZero);
        test("Promise 10: BAD when one of the three is not 0 .. 7",
                () -> dueRefusal(BAD, "telescope", Kind.SLOT, Kind.SLOT, Kind.SLOT));
        test("Promise 10: the edges are not BAD",
                () -> dueEdgesTaken("telescope", Kind.SLOT, Kind.SLOT, Kind.SLOT));
        test("Promise 10: BAD when d = r", SplitTests::telescopeIntoOneSlot);
        test("Promise 10: not BAD when a is d or r", SplitTests::telescopeInPlace);
        test("Promise 10: LIMIT when T is OVER, with the ratio 1", SplitTests::telescopeLimitRatioOne);
        test("Promise 10: LIMIT when T is OVER, with poles", SplitTests::telescopeLimitPoles);
        test("Promise 10: T of degree 31 is not OVER", SplitTests::telescopeAtTheLimit);
        test("Promise 10: T of the pole 7 is not OVER", SplitTests::telescopeLastPole);
    }

    private static void checking() {
        test("Promise 11: whether the difference of d is the same as a", SplitTests::check);
        test("Promise 11: false when but one part differs", SplitTests::checkNearMisses);
        test("Promise 11: a difference with the factor k + 8 is not the same as any term", SplitTests::checkOverByFactor);
        test("Promise 11: a difference of degree 32 is not the same as any term", SplitTests::checkOverByDegree);
        test("Promise 11: false when one of the two is not 0 .. 7", SplitTests::checkWrongSlots);
        test("Promise 11: changes nothing", SplitTests::checkChangesNothing);
    }

    /** Slot a is split into the slots 3 and 4, and put together again in slot 5. */
    private static void dueComesBack(CountedDesk x, int a, int answer) {
        dueCall(x, answer, "telescope", 3, 4, a);
        dueCall(x, 0, "difference", 5, 3);
        dueCall(x, 0, "add", 5, 5, 4);
        due("comes back", x.same(5, a), true);
    }

    private static void eachPoleComesBack() {
        for (int z : RATIOS) {
            for (int b = 0; b < 8; b++) {
                for (int e = 1; e <= 3; e++) {
                    CountedDesk x = new CountedDesk();
                    build(x, 0, z, ONE, b, e);
                    dueComesBack(x, 0, 0);
                    // With a numerator of higher degree there are the lower exponents and a whole part too.
                    build(x, 1, z, new int[] {11, 0, 3, 0, 1, 9}, b, e);
                    dueComesBack(x, 1, 0);
                }
            }
        }
    }

    private static void allPolesComeBack() {
        for (int z : RATIOS) {
            CountedDesk x = new CountedDesk();
            raise(x, 0, 9, 31);
            build(x, 1, z, ONE, 0, 3, 1, 3, 2, 3, 3, 3, 4, 3, 5, 3, 6, 3, 7, 3);
            x.multiply(0, 0, 1);
            dueComesBack(x, 0, 0);
            int[] seen = x.look(3);
            due("ratio", seen[0], z);
            due("degree", seen[1], z == 1 ? 29 : 28);
            for (int b = 0; b < 8; b++) {
                due("exponent " + b, seen[34 + b], b < 7 ? 3 : 0);
            }
            due("exponent of the remainder", x.exponent(4, 0), 3);
        }
    }

    private static void eachPowerComesBack() {
        for (int z : RATIOS) {
            for (int i = 0; i <= (z == 1 ? 30 : 31); i++) {
                CountedDesk x = new CountedDesk();
                raise(x, 0, 0, i);
                x.power(1, z);
                x.multiply(0, 0, 1);
                dueComesBack(x, 0, 1);
                due("degree", x.degree(3), z == 1 ? i + 1 : i);
                due("top", x.coefficient(3, z == 1 ? i + 1 : i), inverse(z == 1 ? i + 1 : z - 1));
            }
        }
    }

    private static void partsOfEachPole() {
        for (int z : RATIOS) {
            for (int b = 0; b < 8; b++) {
                for (int e = 1; e <= 3; e++) {
                    CountedDesk x = new CountedDesk();
                    build(x, 0, z, new int[] {7}, b, e);
                    dueCall(x, 0, "telescope", 3, 4, 0);
                    duePartsBelow(x, z, b, e);
                    dueTerm(x, 4, z, new int[] {(int) (7L * raised(inverse(z), b) % P)}, 0, e);
                }
            }
        }
    }

    /** Slot 3 has 7 / z^(b - j) / (k + j)^e for each j below b, and no other weight. */
    private static void duePartsBelow(CountedDesk x, int z, int b, int e) {
        for (int j = 0; j < 8; j++) {
            for (int f = 1; f <= 3; f++) {
                int part = j < b && f == e ? (int) (7L * raised(inverse(z), b - j) % P) : 0;
                dueCall(x, part, "weight", 3, j, f);
            }
        }
    }

    private static void remainderOfThree() {
        for (int z : RATIOS) {
            CountedDesk x = new CountedDesk();
            int moved = raised(inverse(z), 2);
            addFraction(x, 0, z, 0, 3, 30);
            addFraction(x, 0, z, 2, 2, 20);
            addFraction(x, 0, z, 0, 1, 10);
            dueCall(x, 0, "telescope", 3, 4, 0);
            dueTerm(x, 4, z, new int[] {30, 20 * moved % P, 10}, 0, 3);
        }
    }

    private static void noConstantWithRatioOne() {
        CountedDesk x = new CountedDesk();
        x.linear(0, 1, 5);
        x.difference(0, 0);
        dueCall(x, 1, "telescope", 1, 2, 0);
        dueTerm(x, 1, 1, new int[] {0, 1});
        // k + 5 + 1 / k has the same difference as k + 1 / k.
        x.linear(0, 1, 5);
        addFraction(x, 0, 1, 0, 1, 1);
        x.difference(0, 0);
        dueCall(x, 1, "telescope", 1, 2, 0);
        dueTerm(x, 1, 1, new int[] {1, 0, 1}, 0, 1);
        // 4 k^3 + 2: k^4 - 2 k^3 + k^2 + 2 k
        build(x, 0, 1, new int[] {2, 0, 0, 4});
        dueCall(x, 1, "telescope", 1, 2, 0);
        dueTerm(x, 1, 1, new int[] {0, 2, 1, P - 2, 1});
    }

    private static void constantWithOtherRatio() {
        for (int z : RATIOS) {
            if (z != 1) {
                CountedDesk x = new CountedDesk();
                build(x, 0, z, new int[] {5, 1});
                x.difference(1, 0);
                dueCall(x, 1, "telescope", 2, 3, 1);
                dueTerm(x, 2, z, new int[] {5, 1});
                dueZero(x, 3);
                // 3 z^k is the difference of 3 / (z - 1) z^k.
                build(x, 0, z, new int[] {3});
                dueCall(x, 1, "telescope", 2, 3, 0);
                dueTerm(x, 2, z, new int[] {(int) (3L * inverse(z - 1) % P)});
            }
        }
    }

    private static void differenceIsUndone() {
        for (int z : RATIOS) {
            CountedDesk x = new CountedDesk();
            build(x, 0, z, new int[] {0, 4, 0, 2});
            addFraction(x, 0, z, 0, 1, 8);
            addFraction(x, 0, z, 3, 2, 9);
            addFraction(x, 0, z, 6, 3, 10);
            dueCall(x, 0, "difference", 1, 0);
            dueCall(x, 1, "telescope", 2, 3, 1);
            due("comes back", x.same(2, 0), true);
            dueZero(x, 3);
        }
    }

    private static void splitZero() {
        CountedDesk x = fullDesk();
        dueCall(x, 1, "telescope", 0, 4, 2);
        dueZero(x, 0);
        dueZero(x, 4);
    }

    private static void telescope() {
        CountedDesk x = new CountedDesk();
        x.linear(0, 1, 0);
        dueCall(x, 1, "telescope", 1, 2, 0);
        dueTerm(x, 1, 1, new int[] {0, 5003, 5004});
        dueZero(x, 2);
        // 2^k / (k + 1) is the difference of 2^k / (2 k), and 2^k / (2 k).
        build(x, 0, 2, ONE, 1, 1);
        dueCall(x, 0, "telescope", 1, 2, 0);
        dueTerm(x, 1, 2, new int[] {5004}, 0, 1);
        dueTerm(x, 2, 2, new int[] {5004}, 0, 1);
        // 1 / (k (k + 1)) is the difference of -1 / k.
        build(x, 3, 1, ONE, 0, 1, 1, 1);
        dueCall(x, 1, "telescope", 4, 5, 3);
        dueTerm(x, 4, 1, new int[] {10006}, 0, 1);
        dueZero(x, 5);
    }

    private static void telescopeKeepsOthers() {
        CountedDesk x = fullDesk();
        int[][] before = x.lookAtAll();
        dueCall(x, 0, "telescope", 7, 2, 0);
        dueOthersKept(x, before, 7, 2);
    }

    private static void telescopeAnswersOne() {
        for (int z : RATIOS) {
            for (int e = 1; e <= 3; e++) {
                // w at the pole 7 and -w / z^7 at the pole 0
                CountedDesk x = new CountedDesk();
                addFraction(x, 0, z, 7, e, 5);
                addFraction(x, 0, z, 0, e, (int) ((P - 5L) * raised(inverse(z), 7) % P));
                dueCall(x, 1, "telescope", 1, 2, 0);
                dueZero(x, 2);
                addFraction(x, 0, z, 0, e, 1);
                dueCall(x, 0, "telescope", 1, 2, 0);
                dueTerm(x, 2, z, ONE, 0, e);
            }
        }
    }

    private static void telescopeAnswersZero() {
        for (int e = 1; e <= 3; e++) {
            for (int b = 0; b < 8; b++) {
                CountedDesk x = new CountedDesk();
                build(x, 0, 1, ONE, b, e);
                dueCall(x, 0, "telescope", 1, 2, 0);
                dueTerm(x, 2, 1, ONE, 0, e);
            }
        }
    }

    private static void telescopeIntoOneSlot() {
        for (int s = 0; s < 8; s++) {
            CountedDesk x = fullDesk();
            dueNothingChanged(x, BAD, "telescope", s, s, 0);
            dueNothingChanged(x, BAD, "telescope", s, s, s);
        }
    }

    private static void telescopeInPlace() {
        CountedDesk x = new CountedDesk();
        build(x, 0, 1, ONE, 1, 2);
        dueCall(x, 0, "telescope", 0, 1, 0);
        dueTerm(x, 0, 1, ONE, 0, 2);
        dueTerm(x, 1, 1, ONE, 0, 2);
        build(x, 2, 3, ONE, 1, 2);
        dueCall(x, 0, "telescope", 3, 2, 2);
        dueTerm(x, 2, 3, new int[] {inverse(3)}, 0, 2);
        dueTerm(x, 3, 3, new int[] {inverse(3)}, 0, 2);
    }

    private static void telescopeLimitRatioOne() {
        CountedDesk x = fullDesk();
        dueNothingChanged(x, LIMIT, "telescope", 0, 1, 4);
        dueNothingChanged(x, LIMIT, "telescope", 4, 1, 4);
        dueNothingChanged(x, LIMIT, "telescope", 1, 4, 4);
        // k^31 / (k + 2): X has the degree 31, the poles are 0 and 1.
        raise(x, 0, 0, 31);
        build(x, 1, 1, ONE, 2, 1);
        x.multiply(0, 0, 1);
        dueNothingChanged(x, LIMIT, "telescope", 3, 5, 0);
    }

    private static void telescopeLimitPoles() {
        // 2^k (k^n + 1 / (k + 2)^e): T has the poles 0 and 1, and the degree n + 2 e.
        for (int e = 1; e <= 3; e++) {
            for (int n = 25; n <= 31 - e; n++) {
                CountedDesk x = new CountedDesk();
                raise(x, 0, 0, n);
                x.power(1, 2);
                x.multiply(0, 0, 1);
                addFraction(x, 0, 2, 2, e, 1);
                if (n + 2 * e > 31) {
                    dueNothingChanged(x, LIMIT, "telescope", 0, 1, 0);
                    dueNothingChanged(x, LIMIT, "telescope", 1, 2, 0);
                } else {
                    dueCall(x, 0, "telescope", 1, 2, 0);
                    due("degree", x.degree(1), n + 2 * e);
                }
            }
        }
    }

    private static void telescopeAtTheLimit() {
        CountedDesk x = new CountedDesk();
        raise(x, 0, 0, 30);
        dueComesBack(x, 0, 1);
        due("degree with the ratio 1", x.degree(3), 31);
        raise(x, 0, 0, 31);
        x.power(1, 2);
        x.multiply(0, 0, 1);
        dueComesBack(x, 0, 1);
        due("degree with the ratio 2", x.degree(3), 31);
        for (int e = 1; e <= 3; e++) {
            CountedDesk y = new CountedDesk();
            raise(y, 0, 0, 31 - e);
            y.power(1, 2);
            y.multiply(0, 0, 1);
            addFraction(y, 0, 2, 1, e, 1);
            dueCall(y, 0, "telescope", 3, 4, 0);
            due("degree with the pole 0", y.degree(3), 31);
            due("exponent 0", y.exponent(3, 0), e);
        }
    }

    private static void telescopeLastPole() {
        for (int e = 1; e <= 3; e++) {
            CountedDesk x = new CountedDesk();
            build(x, 0, 1, ONE, 7, e);
            dueCall(x, 0, "telescope", 1, 2, 0);
            int[] seen = x.look(1);
            for (int b = 0; b < 8; b++) {
                due("exponent " + b, seen[34 + b], b < 7 ? e : 0);
            }
        }
    }

    private static void check() {
        CountedDesk x = new CountedDesk();
        x.linear(0, 1, 9);
        x.constant(1, 1);
        due("k + 9 and 1", x.check(0, 1), true);
        due("1 and k + 9", x.check(1, 0), false);
        due("k + 9 and itself", x.check(0, 0), false);
        due("1 and zero", x.check(1, 7), true);
        due("zero and 1", x.check(7, 1), false);
        due("zero and zero", x.check(7, 7), true);
        x.power(2, 2);
        due("2^k and itself", x.check(2, 2), true);
        build(x, 3, 5, new int[] {1, 1}, 0, 1, 6, 3);
        x.difference(4, 3);
        due("a term and its difference", x.check(3, 4), true);
    }

    private static void checkNearMisses() {
        CountedDesk x = new CountedDesk();
        // 2^k (k^2 + 3) / (k + 1); the difference is 2^k (k^3 + 4 k^2 + 9 k + 2) / ((k + 1) (k + 2)).
        build(x, 0, 2, new int[] {3, 0, 1}, 1, 1);
        build(x, 1, 2, new int[] {2, 9, 4, 1}, 1, 1, 2, 1);
        due("the difference", x.check(0, 1), true);
        build(x, 1, 3, new int[] {2, 9, 4, 1}, 1, 1, 2, 1);
        due("another ratio", x.check(0, 1), false);
        build(x, 1, 2, new int[] {1, 9, 4, 1}, 1, 1, 2, 1);
        due("another lowest coefficient", x.check(0, 1), false);
        build(x, 1, 2, new int[] {2, 9, 4, 2}, 1, 1, 2, 1);
        due("another highest coefficient", x.check(0, 1), false);
        build(x, 1, 2, new int[] {2, 9, 4, 1}, 1, 1, 2, 2);
        due("another exponent", x.check(0, 1), false);
        build(x, 1, 2, new int[] {2, 9, 4, 1}, 1, 1, 2, 1, 7, 1);
        due("one more pole", x.check(0, 1), false);
    }

    private static void checkOverByFactor() {
        CountedDesk x = new CountedDesk();
        // The difference of 1 / (k + 7) is -1 / ((k + 7) (k + 8)); these are it without a factor.
        x.pole(0, 7, 1);
        build(x, 1, 1, new int[] {10006}, 7, 1);
        x.constant(2, 10006);
        due("without k + 8", x.check(0, 1), false);
        due("without a pole", x.check(0, 2), false);
        due("itself", x.check(0, 0), false);
        due("zero", x.check(0, 3), false);
    }

    private static void checkOverByDegree() {
        // The difference of 3^k k^31 / (k + 1) has the numerator 3 (k + 1)^32 - k^32 - 2 k^31.
        CountedDesk x = new CountedDesk();
        raise(x, 0, 0, 31);
        build(x, 1, 3, ONE, 1, 1);
        x.multiply(0, 0, 1);
        int[] low = powerOf(1, 32);
        int[] cut = new int[32];
        for (int i = 0; i < 32; i++) {
            cut[i] = 3 * low[i] % P;
        }
        cut[31] = Math.floorMod(cut[31] - 2, P);
        build(x, 1, 3, cut, 1, 1, 2, 1);
        dueTerm(x, 1, 3, cut, 1, 1, 2, 1);
        due("without the highest power", x.check(0, 1), false);
        due("zero", x.check(0, 2), false);
        due("itself", x.check(0, 0), false);
    }

    private static void checkWrongSlots() {
        // Every slot of a new desk is zero, and zero is its own difference.
        CountedDesk x = new CountedDesk();
        for (int one : Kind.SLOT.wrongOnes()) {
            due("d is " + one, x.check(one, 3), false);
            due("a is " + one, x.check(3, one), false);
            due("both are " + one, x.check(one, one), false);
        }
        due("the edges", x.check(0, 7) && x.check(7, 0), true);
    }

    private static void checkChangesNothing() {
        for (int d = 0; d < 8; d++) {
            CountedDesk x = fullDesk();
            int[][] before = x.lookAtAll();
            x.check(d, (d + 1) % 8);
            x.check(d, d);
            x.check(-1, d);
            due("nothing is changed", Arrays.deepEquals(before, x.lookAtAll()), true);
        }
    }
}
