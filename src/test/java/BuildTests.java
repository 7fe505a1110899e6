/** Promises 1 to 5, a sentence at a time. */
public final class BuildTests extends SentenceTests {
    private static final int[] RESIDUES = {0, 1, 2, 5003, 5004, 10005, 10006};

    public static void main(String[] args) {
        test("Promise 1: every slot holds the term zero", BuildTests::newDesk);
        constants();
        linears();
        powers();
        poles();
        finish();
    }

    private static void constants() {
        test("Promise 2: slot s becomes the term c", BuildTests::constant);
        test("Promise 2: ratio 1, no pole, whatever was there", BuildTests::constantOverAnything);
        test("Promise 2: zero when c = 0", BuildTests::constantZero);
        test("Promise 2: BAD when s or c is not as said",
                () -> dueRefusal(BAD, "constant", Kind.SLOT, Kind.RESIDUE));
        test("Promise 2: the edges are not BAD", () -> dueEdgesTaken("constant", Kind.SLOT, Kind.RESIDUE));
    }

    private static void linears() {
        test("Promise 3: slot s becomes the term a * k + b", BuildTests::linear);
        test("Promise 3: with ratio 1, whatever was there", BuildTests::linearOverAnything);
        test("Promise 3: zero when both are 0", BuildTests::linearZero);
        test("Promise 3: BAD when s, a or b is not as said",
                () -> dueRefusal(BAD, "linear", Kind.SLOT, Kind.RESIDUE, Kind.RESIDUE));
        test("Promise 3: the edges are not BAD",
                () -> dueEdgesTaken("linear", Kind.SLOT, Kind.RESIDUE, Kind.RESIDUE));
    }

    private static void powers() {
        test("Promise 4: slot s becomes z^k", BuildTests::power);
        test("Promise 4: N = 1, no pole, whatever was there", BuildTests::powerOverAnything);
        test("Promise 4: BAD when s or z is not as said", () -> dueRefusal(BAD, "power", Kind.SLOT, Kind.RATIO));
        test("Promise 4: BAD when z is 0", () -> dueNothingChanged(fullDesk(), BAD, "power", 0, 0));
        test("Promise 4: the edges are not BAD", () -> dueEdgesTaken("power", Kind.SLOT, Kind.RATIO));
    }

    private static void poles() {
        test("Promise 5: slot s becomes 1 / (k + b)^e", BuildTests::pole);
        test("Promise 5: with ratio 1, whatever was there", BuildTests::poleOverAnything);
        test("Promise 5: BAD when s, b or e is not as said",
                () -> dueRefusal(BAD, "pole", Kind.SLOT, Kind.POLE, Kind.EXPONENT));
        test("Promise 5: BAD when e is 0", () -> dueNothingChanged(fullDesk(), BAD, "pole", 0, 3, 0));
        test("Promise 5: the edges are not BAD",
                () -> dueEdgesTaken("pole", Kind.SLOT, Kind.POLE, Kind.EXPONENT));
    }

    private static void newDesk() {
        CountedDesk x = new CountedDesk();
        for (int s = 0; s < 8; s++) {
            dueZero(x, s);
            for (int i = 0; i < 24; i++) {
                dueCall(x, 0, "weight", s, i / 3, i % 3 + 1);
            }
            dueCall(x, 0, "value", s, 0);
            dueCall(x, 0, "value", s, -7);
            dueCall(x, 0, "sum", s, -30, 1000);
            dueCall(x, 1, "same", s, 7 - s);
            dueCall(x, 1, "check", s, 7 - s);
        }
    }

    private static void constant() {
        for (int s = 0; s < 8; s++) {
            for (int c : RESIDUES) {
                CountedDesk x = new CountedDesk();
                dueCall(x, 0, "constant", s, c);
                dueTerm(x, s, 1, c == 0 ? ZERO : new int[] {c});
            }
        }
    }

    private static void constantOverAnything() {
        for (int s = 0; s < 8; s++) {
            CountedDesk x = fullDesk();
            int[][] before = x.lookAtAll();
            dueCall(x, 0, "constant", s, 77);
            dueTerm(x, s, 1, new int[] {77});
            dueOthersKept(x, before, s);
        }
    }

    private static void constantZero() {
        for (int s = 0; s < 8; s++) {
            CountedDesk x = fullDesk();
            dueCall(x, 0, "constant", s, 0);
            dueZero(x, s);
        }
    }

    private static void linear() {
        for (int a : RESIDUES) {
            for (int b : RESIDUES) {
                CountedDesk x = new CountedDesk();
                dueCall(x, 0, "linear", 7, a, b);
                dueTerm(x, 7, 1, a != 0 ? new int[] {b, a} : b != 0 ? new int[] {b} : ZERO);
            }
        }
    }

    private static void linearOverAnything() {
        for (int s = 0; s < 8; s++) {
            CountedDesk x = fullDesk();
            int[][] before = x.lookAtAll();
            dueCall(x, 0, "linear", s, 3, 77);
            dueTerm(x, s, 1, new int[] {77, 3});
            dueOthersKept(x, before, s);
        }
    }

    private static void linearZero() {
        for (int s = 0; s < 8; s++) {
            CountedDesk x = fullDesk();
            dueCall(x, 0, "linear", s, 0, 0);
            dueZero(x, s);
        }
    }

    private static void power() {
        for (int s = 0; s < 8; s++) {
            for (int z : RESIDUES) {
                if (z != 0) {
                    CountedDesk x = new CountedDesk();
                    dueCall(x, 0, "power", s, z);
                    dueTerm(x, s, z, ONE);
                }
            }
        }
    }

    private static void powerOverAnything() {
        for (int s = 0; s < 8; s++) {
            CountedDesk x = fullDesk();
            int[][] before = x.lookAtAll();
            dueCall(x, 0, "power", s, 77);
            dueTerm(x, s, 77, ONE);
            dueOthersKept(x, before, s);
        }
    }

    private static void pole() {
        for (int s = 0; s < 8; s++) {
            for (int b = 0; b < 8; b++) {
                for (int e = 1; e <= 3; e++) {
                    CountedDesk x = new CountedDesk();
                    dueCall(x, 0, "pole", s, b, e);
                    dueTerm(x, s, 1, ONE, b, e);
                }
            }
        }
    }

    private static void poleOverAnything() {
        for (int s = 0; s < 8; s++) {
            CountedDesk x = fullDesk();
            int[][] before = x.lookAtAll();
            dueCall(x, 0, "pole", s, 4, 2);
            dueTerm(x, s, 1, ONE, 4, 2);
            dueOthersKept(x, before, s);
        }
    }
}
