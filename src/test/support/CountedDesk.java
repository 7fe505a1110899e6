import java.util.ArrayList;
import java.util.List;

/**
 * A desk that counts its calls, since the document promises nothing after the 512th, and that can be made again from
 * the calls it was given, so that looking at a slot uses none of them up.
 */
final class CountedDesk {
    static final int MOST_CALLS = 512;
    private static final int COEFFICIENTS = 32;

    private final TelescopeDesk desk = new TelescopeDesk();
    private final List<String> names = new ArrayList<>();
    private final List<int[]> arguments = new ArrayList<>();

    int calls() {
        return names.size();
    }

    /** A boolean counts 1 or 0. */
    int call(String name, int... args) {
        if (calls() == MOST_CALLS) {
            throw new IllegalStateException("the test makes more than " + MOST_CALLS + " calls on one object");
        }
        names.add(name);
        arguments.add(args.clone());
        return answer(name, args);
    }

    private int answer(String name, int[] a) {
        return switch (name) {
            case "constant" -> desk.constant(a[0], a[1]);
            case "linear" -> desk.linear(a[0], a[1], a[2]);
            case "power" -> desk.power(a[0], a[1]);
            case "pole" -> desk.pole(a[0], a[1], a[2]);
            case "add" -> desk.add(a[0], a[1], a[2]);
            case "multiply" -> desk.multiply(a[0], a[1], a[2]);
            case "shift" -> desk.shift(a[0], a[1]);
            case "difference" -> desk.difference(a[0], a[1]);
            case "telescope" -> desk.telescope(a[0], a[1], a[2]);
            case "check" -> desk.check(a[0], a[1]) ? 1 : 0;
            case "same" -> desk.same(a[0], a[1]) ? 1 : 0;
            case "ratio" -> desk.ratio(a[0]);
            case "degree" -> desk.degree(a[0]);
            case "coefficient" -> desk.coefficient(a[0], a[1]);
            case "exponent" -> desk.exponent(a[0], a[1]);
            case "weight" -> desk.weight(a[0], a[1], a[2]);
            case "value" -> desk.value(a[0], a[1]);
            case "sum" -> desk.sum(a[0], a[1], a[2]);
            default -> throw new IllegalArgumentException("no call " + name);
        };
    }

    CountedDesk copy() {
        CountedDesk made = new CountedDesk();
        for (int i = 0; i < names.size(); i++) {
            made.call(names.get(i), arguments.get(i));
        }
        return made;
    }

    /** Ratio, degree, the coefficients 0 .. 31 and the exponents 0 .. 7 of a slot. */
    int[] look(int s) {
        return copy().read(s);
    }

    /** As look, but with calls of this very object. */
    int[] read(int s) {
        int[] seen = new int[2 + COEFFICIENTS + 8];
        seen[0] = ratio(s);
        seen[1] = degree(s);
        for (int i = 0; i < COEFFICIENTS; i++) {
            seen[2 + i] = coefficient(s, i);
        }
        for (int b = 0; b < 8; b++) {
            seen[2 + COEFFICIENTS + b] = exponent(s, b);
        }
        return seen;
    }

    /** All eight slots, each looked at. */
    int[][] lookAtAll() {
        int[][] seen = new int[8][];
        for (int s = 0; s < 8; s++) {
            seen[s] = look(s);
        }
        return seen;
    }

    int constant(int s, int c) {
        return call("constant", s, c);
    }

    int linear(int s, int a, int b) {
        return call("linear", s, a, b);
    }

    int power(int s, int z) {
        return call("power", s, z);
    }

    int pole(int s, int b, int e) {
        return call("pole", s, b, e);
    }

    int add(int d, int a, int b) {
        return call("add", d, a, b);
    }

    int multiply(int d, int a, int b) {
        return call("multiply", d, a, b);
    }

    int shift(int d, int a) {
        return call("shift", d, a);
    }

    int difference(int d, int a) {
        return call("difference", d, a);
    }

    int telescope(int d, int r, int a) {
        return call("telescope", d, r, a);
    }

    boolean check(int d, int a) {
        return call("check", d, a) == 1;
    }

    boolean same(int a, int b) {
        return call("same", a, b) == 1;
    }

    int ratio(int s) {
        return call("ratio", s);
    }

    int degree(int s) {
        return call("degree", s);
    }

    int coefficient(int s, int i) {
        return call("coefficient", s, i);
    }

    int exponent(int s, int b) {
        return call("exponent", s, b);
    }

    int weight(int s, int b, int e) {
        return call("weight", s, b, e);
    }

    int value(int s, int k) {
        return call("value", s, k);
    }

    int sum(int s, int u, int v) {
        return call("sum", s, u, v);
    }
}
