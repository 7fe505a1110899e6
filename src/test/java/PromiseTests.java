/** Each promise of the document: ordinary inputs, the edges it names, and wrong inputs. */
public final class PromiseTests {
    private static final int P = TelescopeDesk.P;
    private static final int BAD = TelescopeDesk.BAD;
    private static final int MIXED = TelescopeDesk.MIXED;
    private static final int LIMIT = TelescopeDesk.LIMIT;
    private static final int UNDEFINED = TelescopeDesk.UNDEFINED;
    private static final int[] WRONG_SLOTS = {-1, 8, Integer.MIN_VALUE, Integer.MAX_VALUE};
    private static final int[] WRONG_RESIDUES = {-1, P, Integer.MIN_VALUE, Integer.MAX_VALUE};

    private static int wrong = 0;

    public static void main(String[] args) {
        promise1NewObject();
        promise2Constant();
        promise3Linear();
        promise4Power();
        promise5Pole();
        promise6Add();
        promise6AddCodes();
        promise7Multiply();
        promise7MultiplyCodes();
        promise8Shift();
        promise9Difference();
        promise10Telescope();
        promise10TelescopeSlots();
        promise10TelescopeLimit();
        promise10TelescopePoles();
        promise11Check();
        promise12Same();
        promise13To17Reading();
        promise17Weight();
        promise18Value();
        promise19Sum();
        System.out.println(wrong == 0 ? "all promises hold" : wrong + " answers are not as due");
        if (wrong != 0) {
            System.exit(1);
        }
    }

    private static void promise1NewObject() {
        TelescopeDesk x = new TelescopeDesk();
        for (int s = 0; s < 8; s++) {
            dueTerm("new slot " + s, x, s, 1, new int[] {}, new int[8]);
            due("new value", x.value(s, 0), 0);
            due("new same", x.same(s, 0), true);
        }
        TelescopeDesk y = new TelescopeDesk();
        x.constant(0, 5);
        due("objects are apart", y.degree(0), -1);
    }

    private static void promise2Constant() {
        TelescopeDesk x = new TelescopeDesk();
        due("constant", x.constant(7, 10006), 0);
        dueTerm("constant 10006", x, 7, 1, new int[] {10006}, new int[8]);
        due("constant over a pole", x.pole(3, 2, 2), 0);
        due("constant over a pole", x.constant(3, 4), 0);
        dueTerm("constant 4", x, 3, 1, new int[] {4}, new int[8]);
        due("constant after power", x.power(3, 9), 0);
        due("constant 0", x.constant(3, 0), 0);
        dueTerm("constant 0", x, 3, 1, new int[] {}, new int[8]);
        x.constant(0, 6);
        for (int s : WRONG_SLOTS) {
            due("constant slot", x.constant(s, 1), BAD);
        }
        for (int c : WRONG_RESIDUES) {
            due("constant residue", x.constant(0, c), BAD);
        }
        dueTerm("constant unchanged", x, 0, 1, new int[] {6}, new int[8]);
    }

    private static void promise3Linear() {
        TelescopeDesk x = new TelescopeDesk();
        due("linear", x.linear(0, 10006, 3), 0);
        dueTerm("linear", x, 0, 1, new int[] {3, 10006}, new int[8]);
        due("linear flat", x.linear(1, 0, 10006), 0);
        dueTerm("linear flat", x, 1, 1, new int[] {10006}, new int[8]);
        due("linear without constant", x.linear(7, 5, 0), 0);
        dueTerm("linear without constant", x, 7, 1, new int[] {0, 5}, new int[8]);
        x.power(2, 3);
        due("linear zero", x.linear(2, 0, 0), 0);
        dueTerm("linear zero", x, 2, 1, new int[] {}, new int[8]);
        for (int s : WRONG_SLOTS) {
            due("linear slot", x.linear(s, 1, 1), BAD);
        }
        for (int c : WRONG_RESIDUES) {
            due("linear a", x.linear(0, c, 1), BAD);
            due("linear b", x.linear(0, 1, c), BAD);
        }
        dueTerm("linear unchanged", x, 0, 1, new int[] {3, 10006}, new int[8]);
    }

    private static void promise4Power() {
        TelescopeDesk x = new TelescopeDesk();
        due("power", x.power(0, 10006), 0);
        dueTerm("power", x, 0, 10006, new int[] {1}, new int[8]);
        due("power 1", x.power(7, 1), 0);
        dueTerm("power 1", x, 7, 1, new int[] {1}, new int[8]);
        for (int s : WRONG_SLOTS) {
            due("power slot", x.power(s, 1), BAD);
        }
        for (int z : WRONG_RESIDUES) {
            due("power ratio", x.power(0, z), BAD);
        }
        due("power 0", x.power(0, 0), BAD);
        dueTerm("power unchanged", x, 0, 10006, new int[] {1}, new int[8]);
    }

    private static void promise5Pole() {
        TelescopeDesk x = new TelescopeDesk();
        for (int b = 0; b < 8; b++) {
            for (int e = 1; e <= 3; e++) {
                x.power(b, 2);
                due("pole", x.pole(b, b, e), 0);
                dueTerm("pole " + b + " " + e, x, b, 1, new int[] {1}, poles(b, e));
            }
        }
        for (int w : WRONG_SLOTS) {
            due("pole slot", x.pole(w, 1, 1), BAD);
            due("pole b", x.pole(0, w, 1), BAD);
        }
        due("pole e 0", x.pole(0, 1, 0), BAD);
        due("pole e 4", x.pole(0, 1, 4), BAD);
        due("pole e -1", x.pole(0, 1, -1), BAD);
        dueTerm("pole unchanged", x, 0, 1, new int[] {1}, poles(0, 3));
    }

    private static void promise6Add() {
        TelescopeDesk x = new TelescopeDesk();
        x.pole(0, 0, 1);
        x.pole(1, 1, 1);
        due("add 1/k + 1/(k+1)", x.add(2, 0, 1), 0);
        dueTerm("add 1/k + 1/(k+1)", x, 2, 1, new int[] {1, 2}, poles(0, 1, 1, 1));
        // 1 / (k + 2)^2 + (k + 1) / (k + 2)^2 = 1 / (k + 2)
        x.pole(0, 2, 2);
        x.linear(1, 1, 1);
        x.multiply(1, 1, 0);
        due("add cancels", x.add(0, 0, 1), 0);
        dueTerm("add cancels", x, 0, 1, new int[] {1}, poles(2, 1));
        x.power(3, 7);
        x.pole(4, 5, 3);
        x.multiply(3, 3, 4);
        due("add zero on the right", x.add(5, 3, 7), 0);
        dueTerm("add zero on the right", x, 5, 7, new int[] {1}, poles(5, 3));
        due("add zero on the left", x.add(6, 7, 3), 0);
        dueTerm("add zero on the left", x, 6, 7, new int[] {1}, poles(5, 3));
        due("add zeros", x.add(2, 7, 7), 0);
        dueTerm("add zeros", x, 2, 1, new int[] {}, new int[8]);
        x.constant(0, 10006);
        x.multiply(0, 0, 3);
        due("add to zero", x.add(3, 3, 0), 0);
        dueTerm("add to zero", x, 3, 1, new int[] {}, new int[8]);
        due("add to itself", x.add(5, 5, 5), 0);
        dueTerm("add to itself", x, 5, 7, new int[] {2}, poles(5, 3));
    }

    private static void promise6AddCodes() {
        TelescopeDesk x = new TelescopeDesk();
        for (int w : WRONG_SLOTS) {
            due("add d", x.add(w, 0, 0), BAD);
            due("add a", x.add(0, w, 0), BAD);
            due("add b", x.add(0, 0, w), BAD);
        }
        x.power(0, 2);
        x.power(1, 3);
        x.constant(2, 9);
        due("add mixed", x.add(2, 0, 1), MIXED);
        due("add mixed with 1", x.add(2, 0, 2), MIXED);
        due("add bad before mixed", x.add(8, 0, 1), BAD);
        dueTerm("add mixed unchanged", x, 2, 1, new int[] {9}, new int[8]);
        // k^31 + 1 / k has the numerator k^32 + 1.
        powerOfK(x, 3, 4, 31);
        x.pole(5, 0, 1);
        due("add limit", x.add(5, 3, 5), LIMIT);
        dueTerm("add limit unchanged", x, 5, 1, new int[] {1}, poles(0, 1));
        x.multiply(6, 3, 0);
        x.multiply(5, 5, 1);
        due("add mixed before limit", x.add(5, 6, 5), MIXED);
        // k^31 / ((k + 1) (k + 2)) + 2 / ((k + 1) (k + 3)): the degree is 32 until k + 1 is cancelled.
        x.pole(5, 1, 1);
        x.pole(6, 2, 1);
        x.multiply(3, 3, 5);
        x.multiply(3, 3, 6);
        x.pole(6, 3, 1);
        x.constant(7, 2);
        x.multiply(7, 7, 5);
        x.multiply(7, 7, 6);
        due("add is cancelled before it is looked at", x.add(7, 3, 7), 0);
        due("add is cancelled before it is looked at", x.degree(7), 31);
        due("add is cancelled before it is looked at", x.exponent(7, 1), 0);
        due("add is cancelled before it is looked at", x.exponent(7, 2), 1);
        due("add is cancelled before it is looked at", x.exponent(7, 3), 1);
    }

    private static void promise7Multiply() {
        TelescopeDesk x = new TelescopeDesk();
        x.linear(0, 2, 3);
        x.linear(1, 4, 5);
        due("multiply", x.multiply(2, 0, 1), 0);
        dueTerm("multiply", x, 2, 1, new int[] {15, 22, 8}, new int[8]);
        x.power(3, 5000);
        x.power(4, 3);
        due("multiply ratios", x.multiply(5, 3, 4), 0);
        dueTerm("multiply ratios", x, 5, 15000 - P, new int[] {1}, new int[8]);
        x.pole(6, 4, 3);
        x.linear(7, 1, 4);
        due("multiply cancels", x.multiply(6, 6, 7), 0);
        dueTerm("multiply cancels", x, 6, 1, new int[] {1}, poles(4, 2));
        x.multiply(7, 7, 7);
        due("multiply cancels a square", x.multiply(6, 6, 7), 0);
        dueTerm("multiply cancels a square", x, 6, 1, new int[] {1}, new int[8]);
        x.constant(0, 0);
        due("multiply by zero", x.multiply(5, 5, 0), 0);
        dueTerm("multiply by zero", x, 5, 1, new int[] {}, new int[8]);
    }

    private static void promise7MultiplyCodes() {
        TelescopeDesk x = new TelescopeDesk();
        for (int w : WRONG_SLOTS) {
            due("multiply d", x.multiply(w, 0, 0), BAD);
            due("multiply a", x.multiply(0, w, 0), BAD);
            due("multiply b", x.multiply(0, 0, w), BAD);
        }
        x.pole(0, 3, 2);
        due("multiply exponent limit", x.multiply(1, 0, 0), LIMIT);
        due("multiply exponent limit unchanged", x.degree(1), -1);
        x.linear(1, 1, 3);
        x.multiply(1, 1, 0);
        due("multiply to the exponent 3", x.multiply(2, 0, 1), 0);
        dueTerm("multiply to the exponent 3", x, 2, 1, new int[] {1}, poles(3, 3));
        // (k + 1)^3 / (k + 3)^3 times (k + 3) / (k + 1)^3 has exponents above 3 nowhere after it is cancelled.
        x.linear(3, 1, 1);
        x.multiply(4, 3, 3);
        x.multiply(4, 4, 3);
        x.multiply(4, 4, 2);
        x.pole(5, 1, 3);
        x.linear(6, 1, 3);
        x.multiply(6, 6, 5);
        due("multiply crosswise", x.multiply(7, 4, 6), 0);
        dueTerm("multiply crosswise", x, 7, 1, new int[] {1}, poles(3, 2));
        powerOfK(x, 0, 1, 31);
        due("multiply degree 31", x.degree(0), 31);
        due("multiply degree limit", x.multiply(0, 0, 1), LIMIT);
        due("multiply degree unchanged", x.degree(0), 31);
        x.pole(2, 0, 1);
        x.multiply(3, 1, 2);
        due("multiply by 1", x.multiply(4, 0, 3), 0);
        due("multiply by 1", x.same(4, 0), true);
        // k^31 * ((k + 1) / k): the degree is 32 until k is cancelled.
        x.linear(5, 1, 1);
        x.multiply(5, 5, 2);
        due("multiply is cancelled before it is looked at", x.multiply(6, 0, 5), 0);
        due("multiply is cancelled before it is looked at", x.degree(6), 31);
        due("multiply is cancelled before it is looked at", x.coefficient(6, 30), 1);
        due("multiply is cancelled before it is looked at", x.exponent(6, 0), 0);
    }

    private static void promise8Shift() {
        TelescopeDesk x = new TelescopeDesk();
        x.linear(0, 2, 1);
        x.multiply(0, 0, 0);
        x.power(1, 5);
        x.multiply(0, 0, 1);
        x.pole(2, 6, 2);
        x.multiply(0, 0, 2);
        // 5 * (2k + 3)^2 / (k + 7)^2
        due("shift", x.shift(3, 0), 0);
        dueTerm("shift", x, 3, 5, new int[] {45, 60, 20}, poles(7, 2));
        due("shift limit", x.shift(3, 3), LIMIT);
        dueTerm("shift limit unchanged", x, 3, 5, new int[] {45, 60, 20}, poles(7, 2));
        due("shift in place", x.shift(0, 0), 0);
        due("shift in place", x.same(0, 3), true);
        due("shift zero", x.shift(0, 7), 0);
        dueTerm("shift zero", x, 0, 1, new int[] {}, new int[8]);
        x.pole(4, 0, 1);
        for (int b = 1; b < 8; b++) {
            due("shift on", x.shift(4, 4), 0);
            dueTerm("shift on", x, 4, 1, new int[] {1}, poles(b, 1));
        }
        due("shift over the last", x.shift(4, 4), LIMIT);
        for (int w : WRONG_SLOTS) {
            due("shift d", x.shift(w, 0), BAD);
            due("shift a", x.shift(0, w), BAD);
        }
        due("shift bad before limit", x.shift(8, 4), BAD);
    }

    private static void promise9Difference() {
        TelescopeDesk x = new TelescopeDesk();
        powerOfK(x, 0, 1, 3);
        due("difference", x.difference(2, 0), 0);
        dueTerm("difference", x, 2, 1, new int[] {1, 3, 3}, new int[8]);
        x.power(3, 4);
        due("difference of 4^k", x.difference(3, 3), 0);
        dueTerm("difference of 4^k", x, 3, 4, new int[] {3}, new int[8]);
        x.constant(4, 77);
        due("difference of a constant", x.difference(4, 4), 0);
        dueTerm("difference of a constant", x, 4, 1, new int[] {}, new int[8]);
        x.pole(5, 0, 1);
        due("difference of 1/k", x.difference(6, 5), 0);
        dueTerm("difference of 1/k", x, 6, 1, new int[] {10006}, poles(0, 1, 1, 1));
        x.pole(5, 7, 1);
        due("difference limit", x.difference(6, 5), LIMIT);
        dueTerm("difference limit unchanged", x, 6, 1, new int[] {10006}, poles(0, 1, 1, 1));
        due("difference of zero", x.difference(6, 4), 0);
        due("difference of zero", x.degree(6), -1);
        // The difference of k^31 * 2^k has the degree 31, that of k^31 * 2^k / (k + 1) the degree 32.
        powerOfK(x, 0, 1, 31);
        x.power(2, 2);
        x.multiply(0, 0, 2);
        x.pole(2, 1, 1);
        due("difference at the degree", x.difference(3, 0), 0);
        due("difference at the degree", x.degree(3), 31);
        x.multiply(0, 0, 2);
        due("difference degree limit", x.difference(3, 0), LIMIT);
        for (int w : WRONG_SLOTS) {
            due("difference d", x.difference(w, 0), BAD);
            due("difference a", x.difference(0, w), BAD);
        }
    }

    private static void promise10Telescope() {
        TelescopeDesk x = new TelescopeDesk();
        x.constant(0, 1);
        due("telescope 1", x.telescope(1, 2, 0), 1);
        dueTerm("telescope 1", x, 1, 1, new int[] {0, 1}, new int[8]);
        dueTerm("telescope 1", x, 2, 1, new int[] {}, new int[8]);
        x.power(0, 3);
        due("telescope 3^k", x.telescope(1, 2, 0), 1);
        dueTerm("telescope 3^k", x, 1, 3, new int[] {5004}, new int[8]);
        // 2^k / (k + 1) = difference of 2^k / (2k), and 2^k / (2k) is left.
        x.power(0, 2);
        x.pole(1, 1, 1);
        x.multiply(0, 0, 1);
        due("telescope 2^k/(k+1)", x.telescope(1, 2, 0), 0);
        dueTerm("telescope 2^k/(k+1)", x, 1, 2, new int[] {5004}, poles(0, 1));
        dueTerm("telescope 2^k/(k+1)", x, 2, 2, new int[] {5004}, poles(0, 1));
        x.power(0, 6);
        x.pole(1, 0, 3);
        x.multiply(0, 0, 1);
        due("telescope 6^k/k^3", x.telescope(1, 2, 0), 0);
        dueTerm("telescope 6^k/k^3", x, 1, 1, new int[] {}, new int[8]);
        due("telescope 6^k/k^3", x.same(2, 0), true);
        x.constant(0, 0);
        x.power(1, 6);
        x.power(2, 6);
        due("telescope zero", x.telescope(1, 2, 0), 1);
        dueTerm("telescope zero", x, 1, 1, new int[] {}, new int[8]);
        dueTerm("telescope zero", x, 2, 1, new int[] {}, new int[8]);
    }

    private static void promise10TelescopeSlots() {
        TelescopeDesk x = new TelescopeDesk();
        x.pole(0, 1, 2);
        x.pole(3, 0, 2);
        due("telescope into its own slot", x.telescope(0, 1, 0), 0);
        due("telescope into its own slot", x.same(0, 3), true);
        due("telescope into its own slot", x.same(1, 3), true);
        x.pole(0, 1, 2);
        x.constant(1, 0);
        due("telescope rest into its own slot", x.telescope(1, 0, 0), 0);
        due("telescope rest into its own slot", x.same(0, 3), true);
        due("telescope rest into its own slot", x.same(1, 3), true);
        for (int w : WRONG_SLOTS) {
            due("telescope d", x.telescope(w, 0, 0), BAD);
            due("telescope r", x.telescope(0, w, 0), BAD);
            due("telescope a", x.telescope(0, 1, w), BAD);
        }
        due("telescope d = r", x.telescope(2, 2, 0), BAD);
        due("telescope unchanged", x.same(0, 3) && x.degree(2) == -1, true);
    }

    private static void promise10TelescopeLimit() {
        TelescopeDesk x = new TelescopeDesk();
        powerOfK(x, 0, 1, 31);
        x.pole(4, 2, 1);
        x.pole(5, 3, 1);
        due("telescope limit", x.telescope(4, 5, 0), LIMIT);
        dueTerm("telescope limit d", x, 4, 1, new int[] {1}, poles(2, 1));
        dueTerm("telescope limit r", x, 5, 1, new int[] {1}, poles(3, 1));
        due("telescope d = r before limit", x.telescope(4, 4, 0), BAD);
        x.power(1, 2);
        x.multiply(1, 1, 0);
        due("telescope at the degree", x.telescope(2, 3, 1), 1);
        due("telescope at the degree", x.degree(2), 31);
        due("telescope at the degree", x.check(2, 1), true);
        // 2^k k^31 / (k + 1): the whole part has the degree 30, and T has the one pole 0.
        x.pole(2, 1, 1);
        x.multiply(2, 2, 1);
        due("telescope one pole", x.telescope(3, 4, 2), 0);
        due("telescope one pole", x.degree(3), 31);
        due("telescope one pole", x.exponent(3, 0), 1);
        // With (k + 2) instead T has the poles 0 and 1, and the degree 32.
        x.pole(2, 2, 1);
        x.multiply(2, 2, 1);
        due("telescope two poles", x.telescope(3, 4, 2), LIMIT);
    }

    private static void promise10TelescopePoles() {
        for (int b = 0; b < 8; b++) {
            for (int e = 1; e <= 3; e++) {
                TelescopeDesk x = new TelescopeDesk();
                x.power(0, 5);
                x.pole(1, b, e);
                x.multiply(2, 0, 1);
                due("telescope pole", x.telescope(3, 4, 2), 0);
                int part = 1;
                for (int at = b - 1; at >= 0; at--) {
                    part = part * inverse(5) % P;
                    due("telescope part", x.weight(3, at, e), part);
                }
                for (int at = b; at < 8; at++) {
                    due("telescope no part", x.exponent(3, at), 0);
                }
                dueTerm("telescope rest", x, 4, 5, new int[] {part}, poles(0, e));
                x.difference(5, 3);
                x.add(5, 5, 4);
                due("telescope gives back", x.same(5, 2), true);
            }
        }
    }

    private static void promise11Check() {
        TelescopeDesk x = new TelescopeDesk();
        x.linear(0, 1, 9);
        x.constant(1, 1);
        due("check", x.check(0, 1), true);
        due("check the other way", x.check(1, 0), false);
        due("check constant and zero", x.check(1, 7), true);
        due("check itself", x.check(0, 0), false);
        x.power(2, 2);
        due("check 2^k", x.check(2, 2), true);
        x.power(3, 3);
        due("check other ratio", x.check(2, 3), false);
        x.pole(4, 7, 1);
        due("check over", x.check(4, 4), false);
        due("check over and zero", x.check(4, 7), false);
        due("check changes nothing", x.degree(0) == 1 && x.coefficient(0, 0) == 9 && x.exponent(4, 7) == 1, true);
        for (int w : WRONG_SLOTS) {
            due("check d", x.check(w, 7), false);
            due("check a", x.check(7, w), false);
        }
        due("check zero", x.check(7, 7), true);
    }

    private static void promise12Same() {
        TelescopeDesk x = new TelescopeDesk();
        x.linear(0, 1, 9);
        x.linear(1, 1, 9);
        x.linear(2, 1, 8);
        due("same", x.same(0, 1), true);
        due("same itself", x.same(0, 0), true);
        due("same numerator", x.same(0, 2), false);
        x.power(3, 2);
        x.constant(4, 1);
        due("same ratio", x.same(3, 4), false);
        x.pole(5, 3, 1);
        x.pole(6, 3, 2);
        due("same exponent", x.same(5, 6), false);
        due("same no exponent", x.same(4, 5), false);
        x.pole(6, 2, 1);
        due("same pole", x.same(5, 6), false);
        due("same degree", x.same(0, 4), false);
        for (int w : WRONG_SLOTS) {
            due("same a", x.same(w, 0), false);
            due("same b", x.same(0, w), false);
            due("same both", x.same(w, w), false);
        }
    }

    private static void promise13To17Reading() {
        TelescopeDesk x = new TelescopeDesk();
        x.linear(7, 4, 2);
        x.power(0, 6);
        x.multiply(7, 7, 0);
        for (int w : WRONG_SLOTS) {
            due("ratio slot", x.ratio(w), BAD);
            due("degree slot", x.degree(w), BAD);
            due("coefficient slot", x.coefficient(w, 0), BAD);
            due("exponent slot", x.exponent(w, 0), BAD);
            due("exponent pole", x.exponent(7, w), BAD);
            due("weight slot", x.weight(w, 0, 1), BAD);
            due("weight pole", x.weight(7, w, 1), BAD);
        }
        due("ratio", x.ratio(7), 6);
        due("degree", x.degree(7), 1);
        due("coefficient 1", x.coefficient(7, 1), 4);
        due("coefficient 31", x.coefficient(7, 31), 0);
        due("coefficient 32", x.coefficient(7, 32), BAD);
        due("coefficient -1", x.coefficient(7, -1), BAD);
        due("weight exponent 0", x.weight(7, 0, 0), BAD);
        due("weight exponent 4", x.weight(7, 0, 4), BAD);
        due("weight without pole", x.weight(7, 7, 3), 0);
    }

    private static void promise17Weight() {
        TelescopeDesk x = new TelescopeDesk();
        int[] weights = {0, 0, 0, 11, 0, 5, 0, 0, 0, 1, 2, 3, 0, 9000, 0, 0, 0, 0, 0, 0, 0, 10006, 4, 0};
        x.linear(0, 3, 1);
        for (int i = 0; i < weights.length; i++) {
            x.pole(1, i / 3, i % 3 + 1);
            x.constant(2, weights[i]);
            x.multiply(1, 1, 2);
            due("weight built", x.add(0, 0, 1), 0);
        }
        x.power(3, 8);
        x.multiply(0, 0, 3);
        for (int i = 0; i < weights.length; i++) {
            due("weight " + i / 3 + " " + (i % 3 + 1), x.weight(0, i / 3, i % 3 + 1), weights[i]);
        }
        due("weight exponents", x.exponent(0, 1) * 100 + x.exponent(0, 4) * 10 + x.exponent(0, 7), 322);
    }

    private static void promise18Value() {
        TelescopeDesk x = new TelescopeDesk();
        x.linear(0, 2, 1);
        x.power(1, 3);
        x.multiply(0, 0, 1);
        x.pole(2, 4, 2);
        x.multiply(0, 0, 2);
        for (int k = -30; k <= 1000; k++) {
            if (k == -4) {
                due("value at the pole", x.value(0, k), UNDEFINED);
                continue;
            }
            long want = k < 0 ? inverse(raise(3, -k)) : raise(3, k);
            want = want * Math.floorMod(2 * k + 1, P) % P;
            want = want * inverse((int) ((long) (k + 4) * (k + 4) % P)) % P;
            due("value at " + k, x.value(0, k), (int) want);
        }
        due("value below", x.value(0, -31), BAD);
        due("value above", x.value(0, 1001), BAD);
        due("value far below", x.value(0, Integer.MIN_VALUE), BAD);
        due("value far above", x.value(0, Integer.MAX_VALUE), BAD);
        for (int w : WRONG_SLOTS) {
            due("value slot", x.value(w, 0), BAD);
            due("value slot before pole", x.value(w, -4), BAD);
        }
        for (int b = 0; b < 8; b++) {
            x.pole(3, b, 1);
            for (int k = -8; k <= 1; k++) {
                due("value defined", x.value(3, k) == UNDEFINED, k == -b);
            }
        }
        due("value of zero", x.value(7, -30), 0);
    }

    private static void promise19Sum() {
        TelescopeDesk x = new TelescopeDesk();
        x.linear(0, 7, 2);
        x.power(1, 9);
        x.multiply(0, 0, 1);
        x.pole(2, 3, 3);
        x.multiply(0, 0, 2);
        int total = 0;
        for (int k = -2; k <= 1000; k++) {
            total = (total + x.value(0, k)) % P;
            due("sum to " + k, x.sum(0, -2, k), total);
        }
        due("sum of one", x.sum(0, -30, -30), x.value(0, -30));
        due("sum up to the pole", x.sum(0, -30, -3), UNDEFINED);
        due("sum from the pole", x.sum(0, -3, 5), UNDEFINED);
        due("sum at the pole", x.sum(0, -3, -3), UNDEFINED);
        due("sum over all", x.sum(0, -30, 1000), UNDEFINED);
        due("sum of nothing", x.sum(0, -2, -3), 0);
        due("sum of nothing around the pole", x.sum(0, 1000, -30), 0);
        due("sum of zero", x.sum(7, -30, 1000), 0);
        int[] places = {-31, 1001, Integer.MIN_VALUE, Integer.MAX_VALUE};
        for (int w : places) {
            due("sum u", x.sum(0, w, 0), BAD);
            due("sum v", x.sum(0, 0, w), BAD);
            due("sum bad before undefined", x.sum(0, -3, w), BAD);
        }
        due("sum bad though empty", x.sum(0, 1001, 0), BAD);
        for (int w : WRONG_SLOTS) {
            due("sum slot", x.sum(w, 0, 1), BAD);
            due("sum slot though empty", x.sum(w, 1, 0), BAD);
        }
    }

    private static void powerOfK(TelescopeDesk x, int into, int helper, int degree) {
        x.linear(helper, 1, 0);
        x.constant(into, 1);
        for (int i = 0; i < degree; i++) {
            x.multiply(into, into, helper);
        }
    }

    private static int[] poles(int... pairs) {
        int[] exponents = new int[8];
        for (int i = 0; i < pairs.length; i += 2) {
            exponents[pairs[i]] = pairs[i + 1];
        }
        return exponents;
    }

    private static int raise(int base, int times) {
        long answer = 1;
        for (int i = 0; i < times; i++) {
            answer = answer * base % P;
        }
        return (int) answer;
    }

    private static int inverse(int x) {
        for (int y = 1; y < P; y++) {
            if ((long) x * y % P == 1) {
                return y;
            }
        }
        throw new IllegalArgumentException("no inverse of " + x);
    }

    private static void dueTerm(String what, TelescopeDesk x, int s, int z, int[] n, int[] e) {
        due(what + ": ratio", x.ratio(s), z);
        due(what + ": degree", x.degree(s), n.length - 1);
        for (int i = 0; i < 32; i++) {
            due(what + ": coefficient " + i, x.coefficient(s, i), i < n.length ? n[i] : 0);
        }
        for (int b = 0; b < 8; b++) {
            due(what + ": exponent " + b, x.exponent(s, b), e[b]);
        }
    }

    private static void due(String what, int got, int want) {
        if (got != want) {
            wrong++;
            System.out.println(what + ": answered " + got + ", due is " + want);
        }
    }

    private static void due(String what, boolean got, boolean want) {
        due(what, got ? 1 : 0, want ? 1 : 0);
    }
}
