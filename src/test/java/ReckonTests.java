import java.util.Arrays;

/** Promises 6 to 9, a sentence at a time. */
public final class ReckonTests extends SentenceTests {
    public static void main(String[] args) {
        sums();
        products();
        shifts();
        differences();
        finish();
    }

    private static void sums() {
        test("Promise 6: slot d becomes the sum", ReckonTests::sum);
        test("Promise 6: the sum of terms with poles in common and apart", ReckonTests::sumOfPoles);
        test("Promise 6: the sum with zero is the other term", ReckonTests::sumWithZero);
        test("Promise 6: only slot d changes", () -> dueOnlyFirst("add", 3, 0, 5));
        test("Promise 6: BAD when one of the three is not 0 .. 7",
                () -> dueRefusal(BAD, "add", Kind.SLOT, Kind.SLOT, Kind.SLOT));
        test("Promise 6: the edges are not BAD", () -> dueEdgesTaken("add", Kind.SLOT, Kind.SLOT, Kind.SLOT));
        test("Promise 6: MIXED when neither is zero and the ratios are not equal", ReckonTests::sumMixed);
        test("Promise 6: not MIXED when one is zero", ReckonTests::sumNotMixed);
        test("Promise 6: LIMIT when the sum is OVER", ReckonTests::sumLimit);
        test("Promise 6: a sum of degree 31 is not OVER", ReckonTests::sumAtTheLimit);
    }

    private static void products() {
        test("Promise 7: slot d becomes the product", ReckonTests::product);
        test("Promise 7: the ratios are multiplied", ReckonTests::productOfRatios);
        test("Promise 7: the product with zero is zero, never OVER", ReckonTests::productWithZero);
        test("Promise 7: only slot d changes", () -> dueOnlyFirst("multiply", 3, 0, 7));
        test("Promise 7: BAD when one of the three is not 0 .. 7",
                () -> dueRefusal(BAD, "multiply", Kind.SLOT, Kind.SLOT, Kind.SLOT));
        test("Promise 7: the edges are not BAD", () -> dueEdgesTaken("multiply", Kind.SLOT, Kind.SLOT, Kind.SLOT));
        test("Promise 7: LIMIT when the degree is above 31", ReckonTests::productDegreeLimit);
        test("Promise 7: LIMIT when an exponent is above 3", ReckonTests::productExponentLimit);
        test("Promise 7: a product with all exponents 3 and degree 31 is not OVER", ReckonTests::productAtTheLimit);
    }

    private static void shifts() {
        test("Promise 8: slot d becomes t(k + 1)", ReckonTests::shift);
        test("Promise 8: t(k + 1) of the degree 31", ReckonTests::shiftOfHighDegree);
        test("Promise 8: a factor k + b becomes k + (b + 1)", ReckonTests::shiftOfPoles);
        test("Promise 8: only slot d changes", () -> dueOnlyFirst("shift", 3, 0));
        test("Promise 8: BAD when one of the two is not 0 .. 7",
                () -> dueRefusal(BAD, "shift", Kind.SLOT, Kind.SLOT));
        test("Promise 8: the edges are not BAD", () -> dueEdgesTaken("shift", Kind.SLOT, Kind.SLOT));
        test("Promise 8: LIMIT when t(k + 1) has the factor k + 8", ReckonTests::shiftLimit);
    }

    private static void differences() {
        test("Promise 9: slot d becomes the difference", ReckonTests::difference);
        test("Promise 9: the difference of a term with poles", ReckonTests::differenceOfPoles);
        test("Promise 9: the difference of a constant is zero", ReckonTests::differenceOfConstant);
        test("Promise 9: only slot d changes", () -> dueOnlyFirst("difference", 3, 0));
        test("Promise 9: BAD when one of the two is not 0 .. 7",
                () -> dueRefusal(BAD, "difference", Kind.SLOT, Kind.SLOT));
        test("Promise 9: the edges are not BAD", () -> dueEdgesTaken("difference", Kind.SLOT, Kind.SLOT));
        test("Promise 9: LIMIT when the difference has the factor k + 8", ReckonTests::differencePoleLimit);
        test("Promise 9: LIMIT when the degree is above 31", ReckonTests::differenceDegreeLimit);
        test("Promise 9: a difference of degree 31 is not OVER", ReckonTests::differenceAtTheLimit);
    }

    private static void dueOnlyFirst(String name, int... args) {
        CountedDesk x = fullDesk();
        int[][] before = x.lookAtAll();
        dueCall(x, 0, name, args);
        due("slot d is as before", Arrays.equals(before[args[0]], x.look(args[0])), false);
        dueOthersKept(x, before, args[0]);
    }

    private static void sum() {
        CountedDesk x = new CountedDesk();
        x.linear(0, 2, 3);
        build(x, 1, 1, new int[] {10, 20, 30});
        dueCall(x, 0, "add", 2, 0, 1);
        dueTerm(x, 2, 1, new int[] {13, 22, 30});
        dueCall(x, 0, "add", 3, 1, 0);
        dueTerm(x, 3, 1, new int[] {13, 22, 30});
        build(x, 4, 9, new int[] {1, 0, 5});
        build(x, 5, 9, new int[] {2, 1, P - 5});
        dueCall(x, 0, "add", 4, 4, 5);
        dueTerm(x, 4, 9, new int[] {3, 1});
    }

    private static void sumOfPoles() {
        CountedDesk x = new CountedDesk();
        x.pole(0, 0, 1);
        x.pole(1, 1, 1);
        dueCall(x, 0, "add", 2, 0, 1);
        dueTerm(x, 2, 1, new int[] {1, 2}, 0, 1, 1, 1);
        x.pole(0, 7, 1);
        x.pole(1, 7, 3);
        dueCall(x, 0, "add", 2, 0, 1);
        dueTerm(x, 2, 1, new int[] {50, 14, 1}, 7, 3);
        dueCall(x, 0, "add", 2, 1, 0);
        dueTerm(x, 2, 1, new int[] {50, 14, 1}, 7, 3);
        // 3 / (k (k + 2)^2) + 4 / (k + 2)
        build(x, 3, 6, new int[] {3}, 0, 1, 2, 2);
        build(x, 4, 6, new int[] {4}, 2, 1);
        dueCall(x, 0, "add", 5, 3, 4);
        dueTerm(x, 5, 6, new int[] {3, 8, 4}, 0, 1, 2, 2);
    }

    private static void sumWithZero() {
        for (int s = 0; s < 8; s++) {
            CountedDesk x = fullDesk();
            int[] want = x.look(s);
            int into = s == 0 ? 1 : 0;
            dueCall(x, 0, "add", into, s, 2);
            due("term + zero", Arrays.equals(want, x.look(into)), true);
            dueCall(x, 0, "constant", into, 0);
            dueCall(x, 0, "add", into, into, s);
            due("zero + term", Arrays.equals(want, x.look(into)), true);
        }
    }

    private static void sumMixed() {
        CountedDesk x = fullDesk();
        dueNothingChanged(x, MIXED, "add", 7, 0, 3);
        dueNothingChanged(x, MIXED, "add", 7, 3, 0);
        dueNothingChanged(x, MIXED, "add", 2, 0, 6);
        dueNothingChanged(x, MIXED, "add", 0, 6, 0);
        dueNothingChanged(x, MIXED, "add", 5, 1, 5);
        x.power(0, 10005);
        dueNothingChanged(x, MIXED, "add", 1, 0, 3);
    }

    private static void sumNotMixed() {
        CountedDesk x = fullDesk();
        dueCall(x, 0, "add", 1, 0, 2);
        dueCall(x, 0, "add", 1, 2, 3);
        // What was 5^k is zero now, and zero goes with every ratio.
        dueCall(x, 0, "multiply", 5, 5, 2);
        dueCall(x, 0, "add", 1, 5, 3);
        dueTerm(x, 1, 10006, new int[] {12});
        dueCall(x, 0, "add", 1, 2, 5);
        dueZero(x, 1);
    }

    private static void sumLimit() {
        for (int b = 0; b < 8; b++) {
            for (int e = 1; e <= 3; e++) {
                CountedDesk x = new CountedDesk();
                raise(x, 0, 1, 32 - e);
                x.pole(1, b, e);
                dueNothingChanged(x, LIMIT, "add", 2, 0, 1);
                dueNothingChanged(x, LIMIT, "add", 0, 1, 0);
            }
        }
        CountedDesk x = new CountedDesk();
        raise(x, 0, 1, 8);
        allPoles(x, 1);
        dueNothingChanged(x, LIMIT, "add", 1, 0, 1);
    }

    private static void sumAtTheLimit() {
        for (int b = 0; b < 8; b++) {
            for (int e = 1; e <= 3; e++) {
                CountedDesk x = new CountedDesk();
                raise(x, 0, b, 31 - e);
                x.pole(1, b, e);
                dueCall(x, 0, "add", 2, 0, 1);
                int[] want = powerOf(b, 31);
                want[0] = (want[0] + 1) % P;
                dueTerm(x, 2, 1, want, b, e);
            }
        }
        CountedDesk x = new CountedDesk();
        raise(x, 0, 1, 7);
        allPoles(x, 1);
        dueCall(x, 0, "add", 1, 0, 1);
        due("degree", x.degree(1), 31);
    }

    /** Slot s becomes 1 over the product of all (k + b)^3. */
    private static void allPoles(CountedDesk x, int s) {
        build(x, s, 1, ONE, 0, 3, 1, 3, 2, 3, 3, 3, 4, 3, 5, 3, 6, 3, 7, 3);
    }

    private static void product() {
        CountedDesk x = new CountedDesk();
        x.linear(0, 2, 3);
        x.linear(1, 4, 5);
        dueCall(x, 0, "multiply", 2, 0, 1);
        dueTerm(x, 2, 1, new int[] {15, 22, 8});
        build(x, 3, 1, new int[] {1, 3}, 0, 1, 7, 2);
        build(x, 4, 1, new int[] {2, 3}, 0, 2, 6, 3);
        dueCall(x, 0, "multiply", 5, 3, 4);
        dueTerm(x, 5, 1, new int[] {2, 9, 9}, 0, 3, 6, 3, 7, 2);
    }

    private static void productOfRatios() {
        CountedDesk x = new CountedDesk();
        build(x, 0, 5000, new int[] {1, 1}, 2, 1);
        build(x, 1, 3, new int[] {7});
        dueCall(x, 0, "multiply", 2, 0, 1);
        dueTerm(x, 2, 15000 - P, new int[] {7, 7}, 2, 1);
        x.power(3, inverse(5000));
        dueCall(x, 0, "multiply", 4, 0, 3);
        dueTerm(x, 4, 1, new int[] {1, 1}, 2, 1);
    }

    private static void productWithZero() {
        for (int s = 0; s < 8; s++) {
            CountedDesk x = fullDesk();
            int into = s == 0 ? 1 : 0;
            dueCall(x, 0, "multiply", into, s, 2);
            dueZero(x, into);
            dueCall(x, 0, "multiply", s, 2, s);
            dueZero(x, s);
        }
    }

    private static void productDegreeLimit() {
        for (int lower = 1; lower <= 31; lower++) {
            CountedDesk x = new CountedDesk();
            raise(x, 0, 1, lower);
            raise(x, 1, 2, 32 - lower);
            dueNothingChanged(x, LIMIT, "multiply", 2, 0, 1);
        }
        CountedDesk x = new CountedDesk();
        raise(x, 0, 1, 31);
        dueNothingChanged(x, LIMIT, "multiply", 0, 0, 0);
    }

    private static void productExponentLimit() {
        for (int b = 0; b < 8; b++) {
            CountedDesk x = new CountedDesk();
            build(x, 0, 3, ONE, b, 2);
            build(x, 1, 3, new int[] {b + 1, 1}, b, 2);
            dueNothingChanged(x, LIMIT, "multiply", 2, 0, 1);
            dueNothingChanged(x, LIMIT, "multiply", 0, 1, 0);
            dueNothingChanged(x, LIMIT, "multiply", 1, 1, 1);
        }
    }

    private static void productAtTheLimit() {
        CountedDesk x = new CountedDesk();
        raise(x, 0, 8, 31);
        allPoles(x, 1);
        dueCall(x, 0, "multiply", 2, 0, 1);
        dueTerm(x, 2, 1, powerOf(8, 31), 0, 3, 1, 3, 2, 3, 3, 3, 4, 3, 5, 3, 6, 3, 7, 3);
        for (int lower = 0; lower <= 31; lower++) {
            CountedDesk y = new CountedDesk();
            raise(y, 0, 1, lower);
            raise(y, 1, 1, 31 - lower);
            dueCall(y, 0, "multiply", 2, 0, 1);
            dueTerm(y, 2, 1, powerOf(1, 31));
        }
    }

    private static void shift() {
        CountedDesk x = new CountedDesk();
        // 5^k (2k + 1)^2 / (k + 6)^2 becomes 5^k 5 (2k + 3)^2 / (k + 7)^2.
        build(x, 0, 5, new int[] {1, 4, 4}, 6, 2);
        dueCall(x, 0, "shift", 1, 0);
        dueTerm(x, 1, 5, new int[] {45, 60, 20}, 7, 2);
        x.power(2, 10006);
        dueCall(x, 0, "shift", 3, 2);
        dueTerm(x, 3, 10006, new int[] {10006});
        x.constant(4, 8);
        dueCall(x, 0, "shift", 5, 4);
        dueTerm(x, 5, 1, new int[] {8});
        dueCall(x, 0, "shift", 5, 6);
        dueZero(x, 5);
    }

    private static void shiftOfHighDegree() {
        CountedDesk x = new CountedDesk();
        raise(x, 0, 5, 31);
        dueCall(x, 0, "shift", 1, 0);
        dueTerm(x, 1, 1, powerOf(6, 31));
        raise(x, 2, 10006, 31);
        dueCall(x, 0, "shift", 2, 2);
        int[] top = new int[32];
        top[31] = 1;
        dueTerm(x, 2, 1, top);
    }

    private static void shiftOfPoles() {
        for (int e = 1; e <= 3; e++) {
            CountedDesk x = new CountedDesk();
            build(x, 0, 2, ONE, 0, e);
            int factor = 1;
            for (int b = 1; b < 8; b++) {
                dueCall(x, 0, "shift", 0, 0);
                factor *= 2;
                dueTerm(x, 0, 2, new int[] {factor}, b, e);
            }
        }
        CountedDesk x = new CountedDesk();
        build(x, 0, 1, ONE, 0, 1, 1, 2, 2, 3, 6, 1);
        dueCall(x, 0, "shift", 0, 0);
        dueTerm(x, 0, 1, ONE, 1, 1, 2, 2, 3, 3, 7, 1);
    }

    private static void shiftLimit() {
        for (int e = 1; e <= 3; e++) {
            CountedDesk x = new CountedDesk();
            x.pole(0, 7, e);
            build(x, 1, 3, new int[] {5, 1}, 0, 2, 7, e);
            build(x, 2, 3, new int[] {7, 1}, 6, e);
            dueNothingChanged(x, LIMIT, "shift", 3, 0);
            dueNothingChanged(x, LIMIT, "shift", 0, 0);
            dueNothingChanged(x, LIMIT, "shift", 3, 1);
            dueCall(x, 0, "shift", 3, 2);
            dueTerm(x, 3, 3, new int[] {24, 3}, 7, e);
        }
    }

    private static void difference() {
        CountedDesk x = new CountedDesk();
        raise(x, 0, 0, 3);
        dueCall(x, 0, "difference", 1, 0);
        dueTerm(x, 1, 1, new int[] {1, 3, 3});
        // 4^k (k + 2): 4 (k + 3) - (k + 2)
        build(x, 2, 4, new int[] {2, 1});
        dueCall(x, 0, "difference", 3, 2);
        dueTerm(x, 3, 4, new int[] {10, 3});
        x.power(4, 10006);
        dueCall(x, 0, "difference", 4, 4);
        dueTerm(x, 4, 10006, new int[] {10005});
    }

    private static void differenceOfPoles() {
        CountedDesk x = new CountedDesk();
        x.pole(0, 0, 1);
        dueCall(x, 0, "difference", 1, 0);
        dueTerm(x, 1, 1, new int[] {10006}, 0, 1, 1, 1);
        // 3^k / (k + 6)^2: (3 (k + 6)^2 - (k + 7)^2) / ((k + 6)^2 (k + 7)^2)
        build(x, 2, 3, ONE, 6, 2);
        dueCall(x, 0, "difference", 3, 2);
        dueTerm(x, 3, 3, new int[] {59, 22, 2}, 6, 2, 7, 2);
        // 1 / k^3 + 1 / (k + 1)^3: 1 / (k + 2)^3 - 1 / k^3, without the pole 1
        x.pole(4, 0, 3);
        addFraction(x, 4, 1, 1, 3, 1);
        dueCall(x, 0, "difference", 5, 4);
        dueTerm(x, 5, 1, new int[] {P - 8, P - 12, P - 6}, 0, 3, 2, 3);
    }

    private static void differenceOfConstant() {
        CountedDesk x = fullDesk();
        dueCall(x, 0, "difference", 0, 6);
        dueZero(x, 0);
        dueCall(x, 0, "difference", 4, 2);
        dueZero(x, 4);
    }

    private static void differencePoleLimit() {
        for (int e = 1; e <= 3; e++) {
            CountedDesk x = new CountedDesk();
            x.pole(0, 7, e);
            build(x, 1, 3, new int[] {5, 1}, 6, 2, 7, e);
            dueNothingChanged(x, LIMIT, "difference", 2, 0);
            dueNothingChanged(x, LIMIT, "difference", 1, 1);
        }
    }

    private static void differenceDegreeLimit() {
        for (int b = 0; b < 7; b++) {
            CountedDesk x = new CountedDesk();
            raise(x, 0, 9, 31);
            build(x, 1, 2, ONE, b, 1);
            x.multiply(0, 0, 1);
            dueNothingChanged(x, LIMIT, "difference", 1, 0);
            dueNothingChanged(x, LIMIT, "difference", 0, 0);
        }
    }

    private static void differenceAtTheLimit() {
        CountedDesk x = new CountedDesk();
        raise(x, 0, 0, 31);
        dueCall(x, 0, "difference", 1, 0);
        due("degree with the ratio 1", x.degree(1), 30);
        due("top with the ratio 1", x.coefficient(1, 30), 31);
        x.power(2, 2);
        x.multiply(0, 0, 2);
        dueCall(x, 0, "difference", 1, 0);
        due("degree with the ratio 2", x.degree(1), 31);
        due("top with the ratio 2", x.coefficient(1, 31), 1);
        raise(x, 3, 0, 30);
        build(x, 4, 2, ONE, 3, 1);
        x.multiply(3, 3, 4);
        dueCall(x, 0, "difference", 1, 3);
        due("degree with a pole", x.degree(1), 31);
        due("exponents", x.exponent(1, 3) * 10 + x.exponent(1, 4), 11);
    }
}
