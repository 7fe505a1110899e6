import java.util.Arrays;

/** What 'Terms' says of the codes and of the slots that a call reads and writes, a sentence at a time. */
public final class CodeTests extends SentenceTests {
    public static void main(String[] args) {
        test("Codes: they are -9, -8, -7 and -6", CodeTests::numbers);
        order();
        refusals();
        readingFirst();
        test("Codes: calls that only read change nothing", CodeTests::readersChangeNothing);
        finish();
    }

    private static void order() {
        test("Codes: BAD before MIXED", CodeTests::badBeforeMixed);
        test("Codes: BAD before LIMIT", CodeTests::badBeforeLimit);
        test("Codes: BAD before UNDEFINED", CodeTests::badBeforeUndefined);
        test("Codes: MIXED before LIMIT", CodeTests::mixedBeforeLimit);
    }

    private static void refusals() {
        test("Codes: a call that answers BAD changes nothing", CodeTests::badChangesNothing);
        test("Codes: a call that answers MIXED changes nothing", CodeTests::mixedChangesNothing);
        test("Codes: a call that answers LIMIT changes nothing", CodeTests::limitChangesNothing);
        test("Codes: a call that answers UNDEFINED changes nothing", CodeTests::undefinedChangesNothing);
        test("Codes: after a refused call the next is answered as without it", CodeTests::nextCallIsAsWithoutIt);
    }

    private static void readingFirst() {
        test("Codes: the slots are read first (add)", CodeTests::addInPlace);
        test("Codes: the slots are read first (multiply)", CodeTests::multiplyInPlace);
        test("Codes: the slots are read first (shift)", CodeTests::shiftInPlace);
        test("Codes: the slots are read first (difference)", CodeTests::differenceInPlace);
        test("Codes: the slots are read first (telescope)", CodeTests::telescopeInPlace);
    }

    private static void numbers() {
        due("P", TelescopeDesk.P, 10007);
        due("BAD", TelescopeDesk.BAD, -9);
        due("MIXED", TelescopeDesk.MIXED, -8);
        due("LIMIT", TelescopeDesk.LIMIT, -7);
        due("UNDEFINED", TelescopeDesk.UNDEFINED, -6);
    }

    private static void badBeforeMixed() {
        for (int one : Kind.SLOT.wrongOnes()) {
            dueNothingChanged(fullDesk(), BAD, "add", one, 0, 3);
        }
    }

    private static void badBeforeLimit() {
        for (int one : Kind.SLOT.wrongOnes()) {
            dueNothingChanged(fullDesk(), BAD, "add", one, 1, 4);
            dueNothingChanged(fullDesk(), BAD, "multiply", one, 1, 1);
            dueNothingChanged(fullDesk(), BAD, "multiply", one, 4, 4);
            dueNothingChanged(fullDesk(), BAD, "shift", one, 1);
            dueNothingChanged(fullDesk(), BAD, "difference", one, 1);
            dueNothingChanged(fullDesk(), BAD, "telescope", one, 0, 4);
            dueNothingChanged(fullDesk(), BAD, "telescope", 0, one, 4);
        }
        dueNothingChanged(fullDesk(), BAD, "telescope", 0, 0, 4);
        dueNothingChanged(fullDesk(), BAD, "telescope", 4, 4, 4);
    }

    private static void badBeforeUndefined() {
        for (int one : Kind.PLACE.wrongOnes()) {
            dueNothingChanged(fullDesk(), BAD, "sum", 1, -7, one);
            dueNothingChanged(fullDesk(), BAD, "sum", 1, one, -7);
        }
        for (int one : Kind.SLOT.wrongOnes()) {
            dueNothingChanged(fullDesk(), BAD, "value", one, -7);
            dueNothingChanged(fullDesk(), BAD, "sum", one, -7, -7);
        }
    }

    private static void mixedBeforeLimit() {
        // 5^k ../(k (k + 2)^3) and k^31 have different ratios and, were they equal, a sum of degree 35.
        for (int d = 0; d < 8; d++) {
            dueNothingChanged(fullDesk(), MIXED, "add", d, 0, 4);
            dueNothingChanged(fullDesk(), MIXED, "add", d, 4, 0);
        }
    }

    private static void badChangesNothing() {
        // Each with its first slot right, so that there is a slot that might be changed.
        dueNothingChanged(fullDesk(), BAD, "constant", 0, P);
        dueNothingChanged(fullDesk(), BAD, "linear", 0, 1, P);
        dueNothingChanged(fullDesk(), BAD, "linear", 0, P, 1);
        dueNothingChanged(fullDesk(), BAD, "power", 0, 0);
        dueNothingChanged(fullDesk(), BAD, "pole", 0, 8, 1);
        dueNothingChanged(fullDesk(), BAD, "pole", 0, 1, 4);
        dueNothingChanged(fullDesk(), BAD, "add", 0, 8, 1);
        dueNothingChanged(fullDesk(), BAD, "add", 0, 1, 8);
        dueNothingChanged(fullDesk(), BAD, "multiply", 0, 8, 1);
        dueNothingChanged(fullDesk(), BAD, "multiply", 0, 1, 8);
        dueNothingChanged(fullDesk(), BAD, "shift", 0, 8);
        dueNothingChanged(fullDesk(), BAD, "difference", 0, 8);
        dueNothingChanged(fullDesk(), BAD, "telescope", 0, 1, 8);
        dueNothingChanged(fullDesk(), BAD, "telescope", 0, 8, 5);
        dueNothingChanged(fullDesk(), BAD, "telescope", 8, 0, 5);
        dueNothingChanged(fullDesk(), BAD, "telescope", 0, 0, 5);
    }

    private static void mixedChangesNothing() {
        for (int d = 0; d < 8; d++) {
            dueNothingChanged(fullDesk(), MIXED, "add", d, 0, 3);
            dueNothingChanged(fullDesk(), MIXED, "add", d, 6, 5);
        }
    }

    private static void limitChangesNothing() {
        for (int d = 0; d < 8; d++) {
            dueNothingChanged(fullDesk(), LIMIT, "add", d, 1, 4);
            dueNothingChanged(fullDesk(), LIMIT, "multiply", d, 4, 4);
            dueNothingChanged(fullDesk(), LIMIT, "multiply", d, 1, 1);
            dueNothingChanged(fullDesk(), LIMIT, "shift", d, 1);
            dueNothingChanged(fullDesk(), LIMIT, "difference", d, 1);
            dueNothingChanged(fullDesk(), LIMIT, "telescope", d, (d + 1) % 8, 4);
            dueNothingChanged(fullDesk(), LIMIT, "telescope", (d + 3) % 8, d, 4);
        }
    }

    private static void undefinedChangesNothing() {
        dueNothingChanged(fullDesk(), UNDEFINED, "value", 0, 0);
        dueNothingChanged(fullDesk(), UNDEFINED, "value", 0, -2);
        dueNothingChanged(fullDesk(), UNDEFINED, "value", 1, -7);
        dueNothingChanged(fullDesk(), UNDEFINED, "sum", 0, -30, 1000);
        dueNothingChanged(fullDesk(), UNDEFINED, "sum", 1, -7, -7);
    }

    private static void nextCallIsAsWithoutIt() {
        int[][] refused = {{1, 4, 0}, {4, 4, 1}, {1, 1, 1}, {0, 3, 0}};
        for (int[] call : refused) {
            CountedDesk x = fullDesk();
            CountedDesk y = fullDesk();
            due("is refused", x.call(call[2] == 0 ? "add" : "multiply", 7, call[0], call[1]) < 0, true);
            due("is refused", x.telescope(7, 2, 4) < 0 && x.shift(7, 1) < 0 && x.difference(7, 1) < 0, true);
            for (CountedDesk each : new CountedDesk[] {x, y}) {
                dueCall(each, 0, "add", 3, 0, 5);
                dueCall(each, 0, "multiply", 4, 7, 0);
                dueCall(each, 0, "telescope", 2, 1, 0);
            }
            due("is as without", Arrays.deepEquals(x.lookAtAll(), y.lookAtAll()), true);
        }
    }

    private static void addInPlace() {
        for (int[] call : new int[][] {{0, 0, 1}, {1, 0, 1}, {0, 1, 0}, {1, 1, 0}}) {
            CountedDesk x = new CountedDesk();
            x.pole(0, 0, 1);
            x.pole(1, 1, 1);
            dueCall(x, 0, "add", call);
            dueTerm(x, call[0], 1, new int[] {1, 2}, 0, 1, 1, 1);
            dueTerm(x, 1 - call[0], 1, ONE, 1 - call[0], 1);
        }
        CountedDesk x = new CountedDesk();
        build(x, 0, 7, new int[] {3, 1}, 5, 3);
        dueCall(x, 0, "add", 0, 0, 0);
        dueTerm(x, 0, 7, new int[] {6, 2}, 5, 3);
    }

    private static void multiplyInPlace() {
        for (int[] call : new int[][] {{0, 0, 1}, {1, 0, 1}, {0, 1, 0}, {1, 1, 0}}) {
            CountedDesk x = new CountedDesk();
            build(x, 0, 2, new int[] {3, 1}, 0, 1);
            build(x, 1, 3, new int[] {5, 1}, 1, 1);
            int[] kept = x.look(1 - call[0]);
            dueCall(x, 0, "multiply", call);
            dueTerm(x, call[0], 6, new int[] {15, 8, 1}, 0, 1, 1, 1);
            due("the other is kept", Arrays.equals(kept, x.look(1 - call[0])), true);
        }
        CountedDesk x = new CountedDesk();
        build(x, 0, 7, new int[] {3, 1}, 5, 1);
        dueCall(x, 0, "multiply", 0, 0, 0);
        dueTerm(x, 0, 49, new int[] {9, 6, 1}, 5, 2);
    }

    private static void shiftInPlace() {
        CountedDesk x = new CountedDesk();
        build(x, 0, 2, new int[] {1, 2, 3}, 0, 1, 1, 2, 2, 3);
        x.shift(1, 0);
        dueCall(x, 0, "shift", 0, 0);
        dueTerm(x, 0, 2, new int[] {12, 16, 6}, 1, 1, 2, 2, 3, 3);
        due("as elsewhere", x.same(0, 1), true);
    }

    private static void differenceInPlace() {
        CountedDesk x = new CountedDesk();
        build(x, 0, 3, ONE, 6, 2);
        x.difference(1, 0);
        dueCall(x, 0, "difference", 0, 0);
        dueTerm(x, 0, 3, new int[] {59, 22, 2}, 6, 2, 7, 2);
        due("as elsewhere", x.same(0, 1), true);
    }

    private static void telescopeInPlace() {
        for (int[] slots : new int[][] {{0, 1}, {1, 0}, {2, 1}, {1, 2}}) {
            // 2^k (k + 5 / (k + 2)): T = 2^k (k - 2 + (5/2) / (k + 1) + (5/4) / k), the remainder 2^k (5/4) / k.
            CountedDesk x = new CountedDesk();
            build(x, 0, 2, new int[] {0, 1});
            addFraction(x, 0, 2, 2, 1, 5);
            dueCall(x, 0, "telescope", slots[0], slots[1], 0);
            int quarter = 5 * inverse(4) % P;
            dueTerm(x, slots[1], 2, new int[] {quarter}, 0, 1);
            // (k - 2) k (k + 1) + (5/2) k + (5/4) (k + 1)
            dueTerm(x, slots[0], 2, new int[] {quarter, (3 * quarter + P - 2) % P, 10006, 1}, 0, 1, 1, 1);
        }
    }

    private static void readersChangeNothing() {
        for (int s = 0; s < 8; s++) {
            CountedDesk x = fullDesk();
            int[][] before = x.lookAtAll();
            x.check(s, (s + 1) % 8);
            x.same(s, (s + 1) % 8);
            x.read(s);
            for (int i = 0; i < 24; i++) {
                x.weight(s, i / 3, i % 3 + 1);
            }
            for (int k = -30; k < 10; k++) {
                x.value(s, k);
            }
            x.sum(s, -30, 1000);
            x.sum(s, 1, 1000);
            due("nothing is changed", Arrays.deepEquals(before, x.lookAtAll()), true);
        }
    }
}
