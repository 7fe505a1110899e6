/** Promises 12 to 19, a sentence at a time. */
public final class ReadTests extends SentenceTests {
    public static void main(String[] args) {
        comparing();
        partsOfTerms();
        weights();
        values();
        sums();
        finish();
    }

    private static void comparing() {
        test("Promise 12: whether slots a and b hold the same term", ReadTests::same);
        test("Promise 12: two terms are the same only when the ratios are", ReadTests::sameRatio);
        test("Promise 12: two terms are the same only when N is", ReadTests::sameNumerator);
        test("Promise 12: two terms are the same only when all exponents are", ReadTests::sameExponents);
        test("Promise 12: false when one of the two is not 0 .. 7", ReadTests::sameWrongSlots);
    }

    private static void partsOfTerms() {
        test("Promise 13: the ratio", ReadTests::ratio);
        test("Promise 13: BAD when s is not 0 .. 7", () -> dueRefusal(BAD, "ratio", Kind.SLOT));
        test("Promise 14: the degree", ReadTests::degree);
        test("Promise 14: -1 for zero", ReadTests::degreeOfZero);
        test("Promise 14: BAD when s is not 0 .. 7", () -> dueRefusal(BAD, "degree", Kind.SLOT));
        test("Promise 15: the coefficient of k^i", ReadTests::coefficient);
        test("Promise 15: 0 above the degree", ReadTests::coefficientAboveTheDegree);
        test("Promise 15: BAD when s or i is not as said",
                () -> dueRefusal(BAD, "coefficient", Kind.SLOT, Kind.POWER));
        test("Promise 15: BAD when i is 32 and the degree 31", ReadTests::coefficientBeyond);
        test("Promise 15: the edges are not BAD", () -> dueEdgesTaken("coefficient", Kind.SLOT, Kind.POWER));
        test("Promise 16: the exponent", ReadTests::exponent);
        test("Promise 16: BAD when s or b is not as said", () -> dueRefusal(BAD, "exponent", Kind.SLOT, Kind.POLE));
        test("Promise 16: the edges are not BAD", () -> dueEdgesTaken("exponent", Kind.SLOT, Kind.POLE));
    }

    private static void weights() {
        test("Promise 17: the weights, whatever whole part and ratio", ReadTests::weight);
        test("Promise 17: the weights of one pole with a numerator", ReadTests::weightOfOnePole);
        test("Promise 17: those with e above e(b) are 0", ReadTests::weightAboveTheExponent);
        test("Promise 17: the weights of zero and of a polynomial are 0", ReadTests::weightWithoutPole);
        test("Promise 17: BAD when s, b or e is not as said",
                () -> dueRefusal(BAD, "weight", Kind.SLOT, Kind.POLE, Kind.EXPONENT));
        test("Promise 17: BAD when e is 0 or 4, though the pole is there", ReadTests::weightWrongExponent);
        test("Promise 17: the edges are not BAD",
                () -> dueEdgesTaken("weight", Kind.SLOT, Kind.POLE, Kind.EXPONENT));
    }

    private static void values() {
        test("Promise 18: z^k * N(k) / D(k) at each k", ReadTests::value);
        test("Promise 18: z^k for a negative k is the power -k of 1 / z", ReadTests::valueOfNegativePower);
        test("Promise 18: at k = 0 the power is 1", ReadTests::valueAtZero);
        test("Promise 18: the value of zero is 0 everywhere", ReadTests::valueOfZero);
        test("Promise 18: BAD when s or k is not as said", () -> dueRefusal(BAD, "value", Kind.SLOT, Kind.PLACE));
        test("Promise 18: the edges are not BAD", () -> dueEdgesTaken("value", Kind.SLOT, Kind.PLACE));
        test("Promise 18: UNDEFINED when D(k) is 0", ReadTests::valueAtPole);
        test("Promise 18: defined where the exponent is 0", ReadTests::valueBesidePole);
        test("Promise 18: BAD before UNDEFINED", ReadTests::valueBadFirst);
    }

    private static void sums() {
        test("Promise 19: the sum of the values at u, u + 1, .., v", ReadTests::sum);
        test("Promise 19: the sum over one number and over all", ReadTests::sumOfOneAndAll);
        test("Promise 19: 0 when u is above v", ReadTests::sumOfNothing);
        test("Promise 19: 0 when u is above v, though both are poles", ReadTests::sumOfNothingAtPoles);
        test("Promise 19: BAD when s, u or v is not as said",
                () -> dueRefusal(BAD, "sum", Kind.SLOT, Kind.PLACE, Kind.PLACE));
        test("Promise 19: BAD though u is above v", ReadTests::sumOfNothingBad);
        test("Promise 19: the edges are not BAD", () -> dueEdgesTaken("sum", Kind.SLOT, Kind.PLACE, Kind.PLACE));
        test("Promise 19: UNDEFINED when undefined at one of these numbers", ReadTests::sumOverPole);
        test("Promise 19: defined when the pole is next to these numbers", ReadTests::sumBesidePole);
        test("Promise 19: BAD before UNDEFINED", ReadTests::sumBadFirst);
    }

    private static void same() {
        CountedDesk x = fullDesk();
        for (int a = 0; a < 8; a++) {
            for (int b = 0; b < 8; b++) {
                due(a + " and " + b, x.same(a, b), a == b);
            }
        }
        // The same term by two ways: 1 / k - 1 / (k + 1) and 1 / (k (k + 1)).
        CountedDesk y = new CountedDesk();
        addFraction(y, 0, 1, 0, 1, 1);
        addFraction(y, 0, 1, 1, 1, 10006);
        build(y, 1, 1, ONE, 0, 1, 1, 1);
        due("two ways", y.same(0, 1), true);
        due("zero and zero", y.same(3, 7), true);
        due("zero and another", y.same(3, 0), false);
    }

    private static void sameRatio() {
        CountedDesk x = new CountedDesk();
        build(x, 0, 2, new int[] {1, 2}, 3, 1);
        build(x, 1, 3, new int[] {1, 2}, 3, 1);
        build(x, 2, 2, new int[] {1, 2}, 3, 1);
        due("ratios 2 and 3", x.same(0, 1), false);
        due("ratios 2 and 2", x.same(0, 2), true);
        x.constant(3, 1);
        x.power(4, 10006);
        due("ratios 1 and 10006", x.same(3, 4), false);
    }

    private static void sameNumerator() {
        for (int i = 0; i < 4; i++) {
            CountedDesk x = new CountedDesk();
            int[] n = {1, 2, 3, 4};
            build(x, 0, 2, n, 3, 1);
            n[i] = 9;
            build(x, 1, 2, n, 3, 1);
            due("coefficient " + i, x.same(0, 1) || x.same(1, 0), false);
        }
        CountedDesk x = new CountedDesk();
        raise(x, 0, 0, 31);
        raise(x, 1, 0, 30);
        x.constant(2, 1);
        x.add(2, 2, 0);
        due("degrees 31 and 30", x.same(0, 1), false);
        due("k^31 and k^31 + 1", x.same(0, 2), false);
    }

    private static void sameExponents() {
        for (int b = 0; b < 8; b++) {
            for (int e = 1; e <= 3; e++) {
                CountedDesk x = new CountedDesk();
                x.constant(0, 1);
                x.pole(1, b, e);
                x.pole(2, b, e % 3 + 1);
                x.pole(3, (b + 1) % 8, e);
                x.pole(4, b, e);
                due("no pole", x.same(0, 1) || x.same(1, 0), false);
                due("another exponent", x.same(1, 2), false);
                due("another pole", x.same(1, 3), false);
                due("the same pole", x.same(1, 4), true);
            }
        }
    }

    private static void sameWrongSlots() {
        // Every slot of a new desk is zero.
        CountedDesk x = new CountedDesk();
        for (int one : Kind.SLOT.wrongOnes()) {
            due("a is " + one, x.same(one, 3), false);
            due("b is " + one, x.same(3, one), false);
            due("both are " + one, x.same(one, one), false);
        }
        due("the edges", x.same(0, 7) && x.same(7, 0), true);
    }

    private static void ratio() {
        CountedDesk x = new CountedDesk();
        for (int s = 0; s < 8; s++) {
            dueCall(x, 1, "ratio", s);
            x.power(s, 10006 - s);
            dueCall(x, 10006 - s, "ratio", s);
        }
        x.power(0, 1);
        dueCall(x, 1, "ratio", 0);
    }

    private static void degree() {
        for (int n = 0; n <= 31; n++) {
            CountedDesk x = new CountedDesk();
            raise(x, n % 6, 4, n);
            dueCall(x, n, "degree", n % 6);
        }
        CountedDesk x = new CountedDesk();
        build(x, 0, 3, new int[] {5, 1}, 1, 3, 2, 3);
        dueCall(x, 1, "degree", 0);
    }

    private static void degreeOfZero() {
        CountedDesk x = fullDesk();
        dueCall(x, -1, "degree", 2);
        x.constant(4, 0);
        dueCall(x, -1, "degree", 4);
        x.constant(4, 1);
        dueCall(x, 0, "degree", 4);
    }

    private static void coefficient() {
        CountedDesk x = new CountedDesk();
        raise(x, 0, 7, 31);
        int[] want = powerOf(7, 31);
        for (int i = 0; i <= 31; i++) {
            dueCall(x, want[i], "coefficient", 0, i);
        }
        build(x, 1, 8, new int[] {10006, 0, 5}, 0, 3);
        dueCall(x, 10006, "coefficient", 1, 0);
        dueCall(x, 0, "coefficient", 1, 1);
        dueCall(x, 5, "coefficient", 1, 2);
    }

    private static void coefficientAboveTheDegree() {
        CountedDesk x = new CountedDesk();
        raise(x, 0, 7, 31);
        x.linear(0, 4, 5);
        for (int i = 2; i <= 31; i++) {
            dueCall(x, 0, "coefficient", 0, i);
        }
        for (int i = 0; i <= 31; i++) {
            dueCall(x, 0, "coefficient", 1, i);
        }
    }

    private static void coefficientBeyond() {
        CountedDesk x = new CountedDesk();
        raise(x, 0, 7, 31);
        dueCall(x, 1, "coefficient", 0, 31);
        dueCall(x, BAD, "coefficient", 0, 32);
        dueCall(x, BAD, "coefficient", 0, -1);
    }

    private static void exponent() {
        CountedDesk x = new CountedDesk();
        build(x, 0, 2, ONE, 0, 3, 1, 2, 3, 1, 7, 3);
        int[] want = {3, 2, 0, 1, 0, 0, 0, 3};
        for (int b = 0; b < 8; b++) {
            dueCall(x, want[b], "exponent", 0, b);
            dueCall(x, 0, "exponent", 1, b);
        }
    }

    private static void weight() {
        int[] weights = {0, 0, 4, 11, 0, 5, 0, 2, 0, 1, 2, 3, 0, 9000, 0, 0, 0, 0, 6, 0, 0, 10006, 4, 0};
        for (int z : new int[] {1, 8}) {
            for (int whole = 0; whole < 2; whole++) {
                CountedDesk x = new CountedDesk();
                if (whole == 1) {
                    build(x, 0, z, new int[] {9, 0, 0, 7});
                }
                for (int i = 0; i < 24; i++) {
                    if (weights[i] != 0) {
                        addFraction(x, 0, z, i / 3, i % 3 + 1, weights[i]);
                    }
                }
                for (int i = 0; i < 24; i++) {
                    dueCall(x, weights[i], "weight", 0, i / 3, i % 3 + 1);
                }
            }
        }
    }

    private static void weightOfOnePole() {
        for (int b = 0; b < 8; b++) {
            // k^2 = (k + b)^2 - 2 b (k + b) + b^2
            CountedDesk x = new CountedDesk();
            int[] square = {0, 0, 1};
            build(x, 0, 3, b == 0 ? new int[] {4, 5, 1} : square, b, 3);
            dueCall(x, 1, "weight", 0, b, 1);
            dueCall(x, b == 0 ? 5 : P - 2 * b, "weight", 0, b, 2);
            dueCall(x, b == 0 ? 4 : b * b, "weight", 0, b, 3);
        }
    }

    private static void weightAboveTheExponent() {
        for (int b = 0; b < 8; b++) {
            for (int e = 1; e <= 3; e++) {
                CountedDesk x = new CountedDesk();
                build(x, 0, 1, new int[] {3}, b, e);
                for (int f = 1; f <= 3; f++) {
                    dueCall(x, f == e ? 3 : 0, "weight", 0, b, f);
                    dueCall(x, 0, "weight", 0, (b + 1) % 8, f);
                }
            }
        }
        // (k + 2) / (k + 1) = 1 + 1 / (k + 1)
        CountedDesk x = new CountedDesk();
        build(x, 0, 1, new int[] {2, 1}, 1, 1);
        dueCall(x, 1, "weight", 0, 1, 1);
        dueCall(x, 0, "weight", 0, 1, 2);
        dueCall(x, 0, "weight", 0, 1, 3);
    }

    private static void weightWithoutPole() {
        CountedDesk x = new CountedDesk();
        raise(x, 0, 3, 31);
        for (int i = 0; i < 24; i++) {
            dueCall(x, 0, "weight", 0, i / 3, i % 3 + 1);
            dueCall(x, 0, "weight", 1, i / 3, i % 3 + 1);
        }
    }

    private static void weightWrongExponent() {
        CountedDesk x = new CountedDesk();
        x.pole(0, 2, 3);
        dueCall(x, BAD, "weight", 0, 2, 0);
        dueCall(x, BAD, "weight", 0, 2, 4);
        dueCall(x, 1, "weight", 0, 2, 3);
    }

    /** 3^k (2k + 1) / (k + 4)^2 in slot 0. */
    private static CountedDesk sample() {
        CountedDesk x = new CountedDesk();
        build(x, 0, 3, new int[] {1, 2}, 4, 2);
        return x;
    }

    private static int sampleAt(int k) {
        long power = raised(k < 0 ? inverse(3) : 3, Math.abs(k));
        long above = Math.floorMod(power * (2 * k + 1), (long) P);
        return (int) (above * inverse((k + 4) * (k + 4) % P) % P);
    }

    private static void value() {
        CountedDesk x = sample();
        for (int k = -30; k <= 1000; k++) {
            if (x.calls() > 400) {
                x = sample();
            }
            dueCall(x, k == -4 ? UNDEFINED : sampleAt(k), "value", 0, k);
        }
    }

    private static void valueOfNegativePower() {
        for (int z : new int[] {1, 2, 5004, 10005, 10006}) {
            CountedDesk x = new CountedDesk();
            x.power(0, z);
            int want = 1;
            for (int k = -1; k >= -30; k--) {
                want = (int) ((long) want * inverse(z) % P);
                dueCall(x, want, "value", 0, k);
            }
        }
    }

    private static void valueAtZero() {
        CountedDesk x = new CountedDesk();
        x.power(0, 10006);
        dueCall(x, 1, "value", 0, 0);
        build(x, 1, 77, new int[] {6, 5, 4}, 3, 1);
        dueCall(x, 2, "value", 1, 0);
    }

    private static void valueOfZero() {
        CountedDesk x = new CountedDesk();
        for (int k : new int[] {-30, -8, -7, -3, -1, 0, 1, 1000}) {
            dueCall(x, 0, "value", 5, k);
        }
        // A pole that is multiplied away leaves no trace.
        x.pole(0, 3, 2);
        x.multiply(0, 0, 1);
        dueCall(x, 0, "value", 0, -3);
    }

    private static void valueAtPole() {
        for (int b = 0; b < 8; b++) {
            for (int e = 1; e <= 3; e++) {
                CountedDesk x = new CountedDesk();
                build(x, 0, 4, new int[] {b + 1, 1}, b, e);
                dueNothingChanged(x, UNDEFINED, "value", 0, -b);
                for (int k = -10; k <= 2; k++) {
                    due("undefined at " + k, x.value(0, k) == UNDEFINED, k == -b);
                }
            }
        }
        CountedDesk x = new CountedDesk();
        build(x, 0, 1, ONE, 0, 1, 7, 1);
        due("undefined at both", x.value(0, 0) == UNDEFINED && x.value(0, -7) == UNDEFINED, true);
    }

    private static void valueBesidePole() {
        for (int b = 0; b < 8; b++) {
            CountedDesk x = new CountedDesk();
            // N(-b) = 0, and the exponent at b is 0.
            build(x, 0, 1, new int[] {b, 1}, (b + 1) % 8, 1);
            dueCall(x, 0, "value", 0, -b);
            // A pole that has been cancelled is no pole.
            x.pole(1, b, 1);
            x.linear(2, 1, b);
            x.multiply(1, 1, 2);
            dueCall(x, 1, "value", 1, -b);
        }
        CountedDesk x = new CountedDesk();
        x.pole(0, 7, 1);
        dueCall(x, 10006, "value", 0, -8);
    }

    private static void valueBadFirst() {
        CountedDesk x = new CountedDesk();
        for (int s = 0; s < 8; s++) {
            x.pole(s, 4, 1);
        }
        for (int one : Kind.SLOT.wrongOnes()) {
            dueCall(x, BAD, "value", one, -4);
        }
    }

    private static void sum() {
        CountedDesk x = sample();
        int total = 0;
        for (int k = -3; k <= 1000; k++) {
            if (x.calls() > 400) {
                x = sample();
            }
            total = (total + sampleAt(k)) % P;
            dueCall(x, total, "sum", 0, -3, k);
        }
        x = sample();
        total = 0;
        for (int k = -5; k >= -30; k--) {
            total = (total + sampleAt(k)) % P;
            dueCall(x, total, "sum", 0, k, -5);
        }
    }

    private static void sumOfOneAndAll() {
        CountedDesk x = sample();
        dueCall(x, sampleAt(-30), "sum", 0, -30, -30);
        dueCall(x, sampleAt(1000), "sum", 0, 1000, 1000);
        dueCall(x, sampleAt(0), "sum", 0, 0, 0);
        x.constant(1, 9);
        dueCall(x, 9 * 1031, "sum", 1, -30, 1000);
        x.constant(1, 10);
        dueCall(x, 10310 - P, "sum", 1, -30, 1000);
        dueCall(x, 0, "sum", 2, -30, 1000);
    }

    private static void sumOfNothing() {
        CountedDesk x = sample();
        for (int k = -30; k < 1000; k += 5) {
            dueCall(x, 0, "sum", 0, k + 1, k);
        }
        dueCall(x, 0, "sum", 0, 1000, -30);
        dueCall(x, 0, "sum", 0, -29, -30);
        dueCall(x, 0, "sum", 0, 1000, 999);
    }

    private static void sumOfNothingAtPoles() {
        CountedDesk x = new CountedDesk();
        build(x, 0, 1, ONE, 0, 1, 1, 1, 6, 2, 7, 3);
        dueCall(x, 0, "sum", 0, 0, -1);
        dueCall(x, 0, "sum", 0, -6, -7);
        dueCall(x, 0, "sum", 0, 0, -7);
        dueCall(x, 0, "sum", 0, 5, -7);
        dueCall(x, 0, "sum", 0, 0, -30);
    }

    private static void sumOfNothingBad() {
        CountedDesk x = sample();
        dueCall(x, BAD, "sum", 0, 1001, 0);
        dueCall(x, BAD, "sum", 0, 0, -31);
        dueCall(x, BAD, "sum", 0, 1001, -31);
        dueCall(x, BAD, "sum", 0, 1001, 1000);
        dueCall(x, BAD, "sum", 0, -30, -31);
        dueCall(x, BAD, "sum", 8, 1, 0);
        dueCall(x, BAD, "sum", -1, 1, 0);
    }

    private static void sumOverPole() {
        for (int b = 0; b < 8; b++) {
            CountedDesk x = new CountedDesk();
            build(x, 0, 2, new int[] {b + 1, 1}, b, b % 3 + 1);
            dueNothingChanged(x, UNDEFINED, "sum", 0, -b, -b);
            dueNothingChanged(x, UNDEFINED, "sum", 0, -30, -b);
            dueNothingChanged(x, UNDEFINED, "sum", 0, -b, 1000);
            dueNothingChanged(x, UNDEFINED, "sum", 0, -30, 1000);
            dueNothingChanged(x, UNDEFINED, "sum", 0, -b - 1, -b + 1);
        }
    }

    private static void sumBesidePole() {
        for (int b = 0; b < 8; b++) {
            CountedDesk x = new CountedDesk();
            x.pole(0, b, 1);
            int below = 0;
            for (int k = -30; k < -b; k++) {
                below = (below + P - inverse(-k - b)) % P;
            }
            dueCall(x, below, "sum", 0, -30, -b - 1);
            int above = 0;
            for (int k = -b + 1; k <= 10; k++) {
                above = (above + inverse(k + b)) % P;
            }
            dueCall(x, above, "sum", 0, -b + 1, 10);
        }
    }

    private static void sumBadFirst() {
        CountedDesk x = new CountedDesk();
        for (int s = 0; s < 8; s++) {
            x.pole(s, 4, 1);
        }
        for (int one : Kind.PLACE.wrongOnes()) {
            dueCall(x, BAD, "sum", 0, -4, one);
            dueCall(x, BAD, "sum", 0, one, -4);
        }
        for (int one : Kind.SLOT.wrongOnes()) {
            dueCall(x, BAD, "sum", one, -4, -4);
        }
        dueTerm(x, 0, 1, ONE, 4, 1);
    }
}
