import java.util.Arrays;

/** What tests have in common: the answers that are due, and short ways to ask what the OPS of a METHOD do. */
abstract class Asked {
    static final int NONE = ChainFrames.NONE, BAD = ChainFrames.BAD, NO = ChainFrames.NO, FULL = ChainFrames.FULL;
    static final int LEAST = Integer.MIN_VALUE, GREATEST = Integer.MAX_VALUE;
    static final Check check = new Check();

    static int[] op(int... numbers) {
        return numbers;
    }

    static int[] of(int... kinds) {
        return kinds;
    }

    /** So many INTS on the PILE, then an OP. */
    static int[][] above(int ints, int... last) {
        int[][] ops = new int[ints + 1][];
        Arrays.fill(ops, op(0));
        ops[ints] = last;
        return ops;
    }

    /** What the OPS leave, as "LOCALS | PILE". */
    static void leaves(String want, int[] arguments, int[]... ops) {
        Program p = new Program(0, arguments).ops(ops).ops(op(23));
        String name = "ops " + Arrays.deepToString(ops);
        check.due(name, p.compute(), 0);
        check.due(name, p.locals(ops.length) + " | " + p.pile(ops.length), want);
    }

    /** The last of the OPS breaks a RULE. */
    static void breaks(int rule, int[] arguments, int[]... ops) {
        breaksWithResult(0, rule, arguments, ops);
    }

    static void breaksWithResult(int result, int rule, int[] arguments, int[]... ops) {
        Program p = new Program(result, arguments).ops(ops).ops(op(12, ops.length));
        String name = "ops " + Arrays.deepToString(ops);
        check.due(name, p.compute(), rule);
        check.due(name + " place", p.x.told(p.m, 0), ops.length - 1);
    }

    /** The OPS, the last of which is not followed by another one, break no RULE. */
    static void leavesMethod(int result, int[] arguments, int[]... ops) {
        Program p = new Program(result, arguments).ops(ops);
        check.due("result " + result + " ops " + Arrays.deepToString(ops), p.compute(), 0);
    }

    /** compute, the place, and how often a place was gone through. */
    static void ends(String name, Program p, int rule, int place, int passes) {
        check.due(name + ": compute", p.compute(), rule);
        check.due(name + ": place", p.x.told(p.m, 0), place);
        check.due(name + ": passes", p.x.told(p.m, 1), passes);
    }

    static void form(String name, Program p, int place, int want) {
        check.due(name + ": compute", p.compute(), 0);
        check.due(name, p.x.form(p.m, place), want);
    }

    /** The OPS, then a jump to a place that returns: its FORM. */
    static void jumped(String name, int want, int[] arguments, int[]... ops) {
        Program p = new Program(0, arguments).ops(ops).ops(op(12, ops.length + 1), op(23));
        form(name, p, ops.length + 1, want);
    }

    /** Of two ways to a place one puts NULLS into LOCALS that were INTS or LONGS: they are 0 there. */
    static Program losing(int[] arguments, int... locals) {
        int end = 2 + 2 * locals.length;
        Program p = new Program(0, arguments).ops(op(0), op(11, end));
        for (int i : locals) {
            p.ops(op(17), op(7, i));
        }
        return p.ops(op(23));
    }
}
