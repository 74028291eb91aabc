/**
 * A METHOD on an object of its own, with CLASSES 2 below 0, 3 below 2, 4 below 2, 5 a FACE, 6 below 1.
 * Kinds in tests: 12, 13, 14 THINGS of them, 15 of the FACE, 42 to 45 ROWS of them.
 */
final class Program {
    final ChainFrames x = new ChainFrames();
    final int m;

    Program(int result, int... arguments) {
        for (int parent : new int[] {0, 2, 2, ChainFrames.NONE, 1}) {
            mustBeRight(x.cls(parent));
        }
        m = x.method(result);
        mustBeRight(m);
        for (int kind : arguments) {
            mustBeRight(x.argument(m, kind));
        }
    }

    /** OPS as rows {op, a, b}; what is left out is 0. */
    Program ops(int[]... ops) {
        for (int[] op : ops) {
            mustBeRight(x.op(m, op[0], op.length > 1 ? op[1] : 0, op.length > 2 ? op[2] : 0));
        }
        return this;
    }

    Program guard(int from, int to, int handler, int cls) {
        mustBeRight(x.guard(m, from, to, handler, cls));
        return this;
    }

    int compute() {
        return x.compute(m);
    }

    /** LOCALS at a place, without the 0s at their end. */
    String locals(int place) {
        StringBuilder text = new StringBuilder();
        int last = -1;
        for (int k = 0; k < 8; k++) {
            last = x.frame(m, place, k) != 0 ? k : last;
        }
        for (int k = 0; k <= last; k++) {
            text.append(k == 0 ? "" : " ").append(x.frame(m, place, k));
        }
        return text.toString();
    }

    /** The PILE at a place, its bottom first. */
    String pile(int place) {
        StringBuilder text = new StringBuilder();
        for (int k = 8; k < 16 && x.frame(m, place, k) != ChainFrames.NONE; k++) {
            text.append(k == 8 ? "" : " ").append(x.frame(m, place, k));
        }
        return text.toString();
    }

    private static void mustBeRight(int answer) {
        if (answer < 0) {
            throw new IllegalStateException("a test's program was refused: " + answer);
        }
    }
}
