import java.util.Arrays;

/** The sections 'What it is' and 'Terms' of the document up to OVER, a sentence at a time. */
public final class TermTests extends SentenceTests {
    public static void main(String[] args) {
        test("What it is: an object is used for at most 512 calls", TermTests::theLastCallIsAnswered);
        test("What it is: what one object holds is not another's", TermTests::objectsAreApart);
        residues();
        parts();
        normalForm();
        zero();
        over();
        finish();
    }

    private static void residues() {
        test("Terms: sums of residues are taken modulo P", TermTests::sumsWrap);
        test("Terms: differences of residues are taken modulo P", TermTests::differencesWrap);
        test("Terms: products of residues are taken modulo P", TermTests::productsWrap);
        test("Terms: quotients by a residue that is not 0 are residues", TermTests::quotientsWrap);
        test("Terms: powers of residues are taken modulo P", TermTests::powersWrap);
        test("Terms: a whole number stands for its residue (-1 for 10006)", TermTests::wholeNumbers);
    }

    private static void parts() {
        test("Terms: the ratio is a residue 1 .. 10006", TermTests::ratioWraps);
        test("Terms: the degree is at most 31", TermTests::degreeAtMost31);
        test("Terms: the exponents are 0 .. 3", TermTests::exponentsAtMost3);
        test("Terms: each of the slots 0 .. 7 holds a term", TermTests::eachSlotHoldsItsOwn);
    }

    private static void normalForm() {
        test("Terms: k + b does not divide N where e(b) is not 0 (product)", TermTests::productIsNormal);
        test("Terms: k + b does not divide N where e(b) is not 0 (several poles)", TermTests::severalPolesAreNormal);
        test("Terms: k + b does not divide N where e(b) is not 0 (sum)", TermTests::sumIsNormal);
        test("Terms: k + b does not divide N where e(b) is not 0 (difference)", TermTests::differenceIsNormal);
        test("Terms: k + b does not divide N where e(b) is not 0 (remainder)", TermTests::remainderIsNormal);
        test("Terms: k + b may divide N where e(b) is 0", TermTests::factorStaysWithoutPole);
    }

    private static void zero() {
        test("Terms: zero has ratio 1, exponents 0, degree -1 (constant)", TermTests::zeroConstant);
        test("Terms: zero has ratio 1, exponents 0, degree -1 (linear)", TermTests::zeroLinear);
        test("Terms: zero has ratio 1, exponents 0, degree -1 (sum)", TermTests::zeroSum);
        test("Terms: zero has ratio 1, exponents 0, degree -1 (product)", TermTests::zeroProduct);
        test("Terms: zero has ratio 1, exponents 0, degree -1 (t(k + 1))", TermTests::zeroShift);
        test("Terms: zero has ratio 1, exponents 0, degree -1 (difference)", TermTests::zeroDifference);
        test("Terms: zero has ratio 1, exponents 0, degree -1 (T and remainder)", TermTests::zeroOfSplitting);
    }

    private static void over() {
        test("Terms: a sum is looked at only in normal form", TermTests::sumIsCancelledFirst);
        test("Terms: a product is looked at only in normal form", TermTests::productIsCancelledFirst);
        test("Terms: a difference is looked at only in normal form", TermTests::differenceIsCancelledFirst);
        test("Terms: a difference whose highest powers cancel is looked at afterwards", TermTests::topsCancelFirst);
        test("Terms: T is looked at only in normal form", TermTests::splitIsCancelledFirst);
        test("Terms: OVER when the degree is above 31", TermTests::overByDegree);
        test("Terms: OVER when an exponent is above 3", TermTests::overByExponent);
        test("Terms: OVER when a factor k + 8 is left in the denominator", TermTests::overByFactor);
    }

    private static void theLastCallIsAnswered() {
        CountedDesk x = new CountedDesk();
        x.constant(0, 1);
        x.constant(1, 1);
        for (int i = 0; i < 509; i++) {
            dueCall(x, 0, "add", 0, 0, 1);
        }
        dueCall(x, 510, "coefficient", 0, 0);
        due("calls made", x.calls(), 512);
    }

    private static void objectsAreApart() {
        TelescopeDesk one = new TelescopeDesk();
        TelescopeDesk two = new TelescopeDesk();
        one.power(3, 5);
        two.pole(3, 2, 1);
        due("ratio", one.ratio(3), 5);
        due("exponent", one.exponent(3, 2), 0);
        due("other ratio", two.ratio(3), 1);
        due("other exponent", two.exponent(3, 2), 1);
    }

    private static void sumsWrap() {
        CountedDesk x = new CountedDesk();
        x.linear(0, 10006, 10006);
        x.linear(1, 1, 2);
        dueCall(x, 0, "add", 2, 0, 1);
        dueTerm(x, 2, 1, ONE);
        dueCall(x, 0, "add", 3, 0, 0);
        dueTerm(x, 3, 1, new int[] {10005, 10005});
        x.constant(4, 10006);
        dueCall(x, 10005, "sum", 4, 0, 1);
        dueCall(x, P - 1001, "sum", 4, 0, 1000);
    }

    private static void differencesWrap() {
        CountedDesk x = new CountedDesk();
        x.linear(0, 10006, 0);
        dueCall(x, 0, "difference", 0, 0);
        dueTerm(x, 0, 1, new int[] {10006});
        x.power(1, 10006);
        dueCall(x, 0, "difference", 1, 1);
        dueTerm(x, 1, 10006, new int[] {10005});
        x.pole(2, 0, 1);
        dueCall(x, 0, "difference", 2, 2);
        dueTerm(x, 2, 1, new int[] {10006}, 0, 1, 1, 1);
    }

    private static void productsWrap() {
        CountedDesk x = new CountedDesk();
        x.linear(0, 10006, 10006);
        dueCall(x, 0, "multiply", 0, 0, 0);
        dueTerm(x, 0, 1, new int[] {1, 2, 1});
        x.constant(1, 5004);
        x.constant(2, 2);
        dueCall(x, 0, "multiply", 1, 1, 2);
        dueTerm(x, 1, 1, ONE);
    }

    private static void quotientsWrap() {
        CountedDesk x = new CountedDesk();
        x.pole(0, 0, 1);
        dueCall(x, 5004, "value", 0, 2);
        dueCall(x, 10006, "value", 0, -1);
        x.pole(1, 7, 3);
        dueCall(x, inverse(raised(1007, 3)), "value", 1, 1000);
        x.pole(2, 2, 1);
        x.multiply(2, 2, 0);
        dueCall(x, 5004, "weight", 2, 0, 1);
        dueCall(x, 5003, "weight", 2, 2, 1);
    }

    private static void powersWrap() {
        CountedDesk x = new CountedDesk();
        x.power(0, 2);
        dueCall(x, raised(2, 1000), "value", 0, 1000);
        dueCall(x, raised(inverse(2), 30), "value", 0, -30);
        x.power(1, 10006);
        dueCall(x, 10006, "value", 1, 999);
        dueCall(x, 1, "value", 1, 1000);
        dueCall(x, 10006, "value", 1, -1);
        build(x, 2, 1, new int[] {0, 0, 0, 0, 0, 0, 0, 0, 1});
        dueCall(x, raised(1000, 8), "value", 2, 1000);
    }

    private static void wholeNumbers() {
        CountedDesk x = new CountedDesk();
        x.linear(0, 1, 0);
        dueCall(x, 10006, "value", 0, -1);
        dueCall(x, P - 30, "value", 0, -30);
    }

    private static void ratioWraps() {
        CountedDesk x = new CountedDesk();
        x.power(0, 10006);
        dueCall(x, 0, "multiply", 1, 0, 0);
        dueTerm(x, 1, 1, ONE);
        x.power(2, 10005);
        dueCall(x, 0, "multiply", 2, 2, 0);
        dueTerm(x, 2, 2, ONE);
        x.power(3, 5003);
        dueCall(x, 0, "multiply", 3, 3, 2);
        dueTerm(x, 3, 10006, ONE);
    }

    private static void degreeAtMost31() {
        CountedDesk x = new CountedDesk();
        raise(x, 0, 3, 31);
        dueTerm(x, 0, 1, powerOf(3, 31));
        x.linear(1, 1, 3);
        dueNothingChanged(x, LIMIT, "multiply", 0, 0, 1);
    }

    private static void exponentsAtMost3() {
        for (int b = 0; b < 8; b++) {
            CountedDesk x = new CountedDesk();
            x.pole(0, b, 1);
            x.constant(1, 1);
            for (int e = 1; e <= 3; e++) {
                dueCall(x, 0, "multiply", 1, 1, 0);
                dueTerm(x, 1, 1, ONE, b, e);
            }
            dueNothingChanged(x, LIMIT, "multiply", 1, 1, 0);
        }
    }

    private static void eachSlotHoldsItsOwn() {
        CountedDesk x = new CountedDesk();
        for (int s = 0; s < 8; s++) {
            x.linear(s, s + 1, 100 + s);
        }
        for (int s = 0; s < 8; s++) {
            dueTerm(x, s, 1, new int[] {100 + s, s + 1});
        }
    }

    private static void productIsNormal() {
        for (int b = 0; b < 8; b++) {
            for (int e = 1; e <= 3; e++) {
                CountedDesk x = new CountedDesk();
                x.pole(0, b, e);
                x.linear(1, 1, b);
                for (int factors = 1; factors <= 4; factors++) {
                    dueCall(x, 0, "multiply", 0, 0, 1);
                    dueTerm(x, 0, 1, powerOf(b, Math.max(0, factors - e)), b, Math.max(0, e - factors));
                }
            }
        }
    }

    private static void severalPolesAreNormal() {
        CountedDesk x = new CountedDesk();
        build(x, 0, 3, ONE, 0, 2, 4, 2, 7, 1);
        // k^2 (k + 4) (k + 7) (k + 5)
        build(x, 1, 2, new int[] {0, 0, 140, 83, 16, 1});
        dueCall(x, 0, "multiply", 2, 0, 1);
        dueTerm(x, 2, 6, new int[] {5, 1}, 4, 1);
    }

    private static void sumIsNormal() {
        for (int b = 0; b < 8; b++) {
            for (int e = 1; e <= 3; e++) {
                CountedDesk x = new CountedDesk();
                build(x, 0, 4, new int[] {10006}, b, e);
                build(x, 1, 4, new int[] {b + 1, 1}, b, e);
                dueCall(x, 0, "add", 0, 0, 1);
                dueTerm(x, 0, 4, ONE, b, e - 1);
            }
            CountedDesk x = new CountedDesk();
            x.pole(0, b, 3);
            int[] cube = powerOf(b, 3);
            cube[0] = Math.floorMod(cube[0] - 1, P);
            build(x, 1, 1, cube, b, 3);
            dueCall(x, 0, "add", 0, 1, 0);
            dueTerm(x, 0, 1, ONE);
        }
    }

    private static void differenceIsNormal() {
        CountedDesk x = new CountedDesk();
        for (int b = 0; b < 7; b++) {
            addFraction(x, 0, 1, b, 1, 1);
        }
        // 1 / (k + 7) - 1 / k
        dueCall(x, 0, "difference", 0, 0);
        dueTerm(x, 0, 1, new int[] {P - 7}, 0, 1, 7, 1);
    }

    private static void remainderIsNormal() {
        for (int e = 1; e <= 3; e++) {
            CountedDesk x = new CountedDesk();
            for (int lower = 1; lower <= e; lower++) {
                addFraction(x, 0, 2, 0, lower, 10 + lower);
            }
            dueCall(x, 0, "telescope", 1, 2, 0);
            int[][] numerators = {{11}, {12, 11}, {13, 12, 11}};
            dueTerm(x, 2, 2, numerators[e - 1], 0, e);
        }
    }

    private static void factorStaysWithoutPole() {
        for (int b = 0; b < 8; b++) {
            CountedDesk x = new CountedDesk();
            build(x, 0, 1, new int[] {b, 1}, (b + 1) % 8, 2);
            dueTerm(x, 0, 1, new int[] {b, 1}, (b + 1) % 8, 2);
        }
    }

    private static void zeroConstant() {
        CountedDesk x = fullDesk();
        dueCall(x, 0, "constant", 0, 0);
        dueZero(x, 0);
    }

    private static void zeroLinear() {
        CountedDesk x = fullDesk();
        dueCall(x, 0, "linear", 0, 0, 0);
        dueZero(x, 0);
    }

    private static void zeroSum() {
        CountedDesk x = fullDesk();
        dueCall(x, 0, "multiply", 1, 0, 6);
        dueCall(x, 0, "add", 3, 0, 1);
        dueZero(x, 3);
        dueCall(x, 0, "add", 0, 2, 2);
        dueZero(x, 0);
    }

    private static void zeroProduct() {
        CountedDesk x = fullDesk();
        dueCall(x, 0, "multiply", 3, 0, 2);
        dueZero(x, 3);
        dueCall(x, 0, "multiply", 5, 2, 1);
        dueZero(x, 5);
        dueCall(x, 0, "multiply", 4, 4, 2);
        dueZero(x, 4);
        dueCall(x, 0, "multiply", 0, 2, 2);
        dueZero(x, 0);
    }

    private static void zeroShift() {
        CountedDesk x = fullDesk();
        dueCall(x, 0, "shift", 0, 2);
        dueZero(x, 0);
    }

    private static void zeroDifference() {
        CountedDesk x = fullDesk();
        dueCall(x, 0, "difference", 0, 6);
        dueZero(x, 0);
        dueCall(x, 0, "difference", 5, 2);
        dueZero(x, 5);
    }

    private static void zeroOfSplitting() {
        CountedDesk x = fullDesk();
        dueCall(x, 1, "telescope", 0, 5, 2);
        dueZero(x, 0);
        dueZero(x, 5);
        // The remainder is zero, T has the ratio 10006: (-1)^k 12 is the difference of -6 (-1)^k.
        dueCall(x, 1, "telescope", 0, 5, 3);
        dueTerm(x, 0, 10006, new int[] {P - 6});
        dueZero(x, 5);
        // T is zero, the remainder has the ratio 5.
        build(x, 0, 5, ONE, 0, 2);
        dueCall(x, 0, "telescope", 1, 3, 0);
        dueZero(x, 1);
        dueTerm(x, 3, 5, ONE, 0, 2);
    }

    private static void sumIsCancelledFirst() {
        // k^31 / ((k + 1) (k + 2)) + 2 / ((k + 1) (k + 3)): the degree is 32 until k + 1 is cancelled.
        CountedDesk x = new CountedDesk();
        raise(x, 0, 0, 31);
        build(x, 1, 1, ONE, 1, 1, 2, 1);
        x.multiply(0, 0, 1);
        build(x, 1, 1, new int[] {2}, 1, 1, 3, 1);
        dueCall(x, 0, "add", 2, 0, 1);
        int[] seen = x.look(2);
        due("degree", seen[1], 31);
        due("coefficient 31", seen[2 + 31], 1);
        due("coefficient 30", seen[2 + 30], 2);
        due("exponent 1", seen[34 + 1], 0);
        due("exponents 2 and 3", seen[34 + 2] * 10 + seen[34 + 3], 11);
        // With 1 instead of 2 nothing cancels.
        build(x, 1, 1, ONE, 1, 1, 3, 1);
        dueNothingChanged(x, LIMIT, "add", 2, 0, 1);
    }

    private static void productIsCancelledFirst() {
        for (int b = 0; b < 8; b++) {
            // (k + b)^31 * (k + b + 1) / (k + b): the degree is 32 until k + b is cancelled.
            CountedDesk x = new CountedDesk();
            raise(x, 0, b, 31);
            build(x, 1, 1, new int[] {b + 1, 1}, b, 1);
            dueCall(x, 0, "multiply", 2, 0, 1);
            int[] want = new int[32];
            int[] power = powerOf(b, 30);
            for (int i = 0; i < 31; i++) {
                want[i] = (int) ((want[i] + (long) power[i] * (b + 1)) % P);
                want[i + 1] = (want[i + 1] + power[i]) % P;
            }
            dueTerm(x, 2, 1, want);
        }
        // (k + 1)^31 (k + 2)^31 / ((k + 1)^3 (k + 2)^3) is as over as before.
        CountedDesk x = new CountedDesk();
        raise(x, 0, 1, 31);
        raise(x, 1, 2, 31);
        build(x, 2, 1, ONE, 2, 3);
        build(x, 3, 1, ONE, 1, 3);
        x.multiply(0, 0, 2);
        x.multiply(1, 1, 3);
        dueNothingChanged(x, LIMIT, "multiply", 4, 0, 1);
    }

    private static void differenceIsCancelledFirst() {
        // 2^k (k^29 + 1 / k + w / (k + 1)): the difference has the poles 0, 1, 2 and the degree 32, but for w = 2,
        // where 1 / (k + 1) cancels and the degree is 31.
        CountedDesk x = new CountedDesk();
        raise(x, 0, 0, 29);
        x.power(6, 2);
        x.multiply(0, 0, 6);
        addFraction(x, 0, 2, 0, 1, 1);
        addFraction(x, 0, 2, 1, 1, 2);
        due("degree of the term", x.degree(0), 31);
        dueCall(x, 0, "difference", 1, 0);
        int[] seen = x.look(1);
        due("degree", seen[1], 31);
        due("exponent 1", seen[34 + 1], 0);
        due("exponents 0 and 2", seen[34] * 10 + seen[34 + 2], 11);
        addFraction(x, 0, 2, 1, 1, 1);
        dueNothingChanged(x, LIMIT, "difference", 1, 0);
    }

    private static void topsCancelFirst() {
        // With the ratio 1 the tops of k^31 (k + 2) / ((k + 1) (k + 2)) and of its shift cancel, with 2 they do not.
        CountedDesk x = new CountedDesk();
        raise(x, 0, 0, 31);
        x.pole(1, 1, 1);
        x.multiply(0, 0, 1);
        dueCall(x, 0, "difference", 2, 0);
        // (k + 1)^31 (k + 1) - k^31 (k + 2)
        int[] want = Arrays.copyOf(powerOf(1, 32), 32);
        want[31] = (want[31] + P - 2) % P;
        dueTerm(x, 2, 1, want, 1, 1, 2, 1);
        x.power(1, 2);
        x.multiply(0, 0, 1);
        dueNothingChanged(x, LIMIT, "difference", 2, 0);
    }

    private static void splitIsCancelledFirst() {
        // 2^k (k^29 + 8 / (k + 3) + w / (k + 1)): T has the poles 0, 1, 2 and the degree 32, but for w = -2, where the
        // pole 0 is not there and the degree is 31.
        CountedDesk x = new CountedDesk();
        raise(x, 0, 0, 29);
        x.power(6, 2);
        x.multiply(0, 0, 6);
        addFraction(x, 0, 2, 3, 1, 8);
        addFraction(x, 0, 2, 1, 1, P - 2);
        dueCall(x, 1, "telescope", 1, 2, 0);
        int[] seen = x.look(1);
        due("degree", seen[1], 31);
        due("exponents 0 to 2", seen[34] * 100 + seen[34 + 1] * 10 + seen[34 + 2], 11);
        due("weight at 1", x.weight(1, 1, 1), 2);
        due("weight at 2", x.weight(1, 2, 1), 4);
        addFraction(x, 0, 2, 1, 1, 1);
        dueNothingChanged(x, LIMIT, "telescope", 1, 2, 0);
    }

    private static void overByDegree() {
        CountedDesk x = new CountedDesk();
        raise(x, 0, 0, 16);
        raise(x, 1, 0, 15);
        dueCall(x, 0, "multiply", 2, 0, 1);
        due("degree", x.degree(2), 31);
        dueNothingChanged(x, LIMIT, "multiply", 2, 0, 0);
        dueNothingChanged(x, LIMIT, "multiply", 1, 2, 2);
    }

    private static void overByExponent() {
        for (int b = 0; b < 8; b++) {
            for (int one = 1; one <= 3; one++) {
                for (int two = 1; two <= 3; two++) {
                    CountedDesk x = new CountedDesk();
                    x.pole(0, b, one);
                    x.pole(1, b, two);
                    if (one + two > 3) {
                        dueNothingChanged(x, LIMIT, "multiply", 2, 0, 1);
                    } else {
                        dueCall(x, 0, "multiply", 2, 0, 1);
                        dueTerm(x, 2, 1, ONE, b, one + two);
                    }
                }
            }
        }
    }

    private static void overByFactor() {
        CountedDesk x = new CountedDesk();
        x.pole(0, 7, 1);
        dueNothingChanged(x, LIMIT, "shift", 1, 0);
        dueNothingChanged(x, LIMIT, "difference", 1, 0);
        due("check", x.check(0, 2), false);
        x.pole(0, 6, 1);
        dueCall(x, 0, "difference", 1, 0);
        dueTerm(x, 1, 1, new int[] {10006}, 6, 1, 7, 1);
        dueCall(x, 0, "shift", 0, 0);
        dueTerm(x, 0, 1, ONE, 7, 1);
    }
}
