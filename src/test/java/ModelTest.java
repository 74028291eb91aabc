import java.util.Random;

/** All promises: the program and the model answer alike, on runs of calls from a fixed seed. */
public final class ModelTest {
    private static final int RUNS = 20000;
    private static final int MOST_WRONG = 20;

    private final Random random;
    private final ChainFrames x = new ChainFrames();
    private final Model y = new Model();
    private final int[] seen;
    private int wrong = 0;
    private int calls = 0;

    private ModelTest(long seed, int[] seen) {
        random = new Random(seed);
        this.seen = seen;
    }

    public static void main(String[] args) {
        int runs = args.length > 0 ? Integer.parseInt(args[0]) : RUNS;
        int wrong = 0;
        int[] seen = new int[32];
        for (int run = 0; run < runs && wrong < MOST_WRONG; run++) {
            ModelTest test = new ModelTest(run, seen);
            wrong += run % 4 == 3 ? test.wildRun() : test.guidedRun();
            if (test.wrong > 0) {
                System.out.println("run " + run + ": " + test.y);
            }
        }
        System.out.println(wrong + " answers are not as the model's; rules seen " + show(seen, 0, 9) + ", forms seen " + show(seen, 16, 25));
        if (wrong != 0 || runs >= RUNS && !allSeen(seen)) {
            System.exit(1);
        }
    }

    /** A run that never breaks some RULE, or never tells some FORM, would test too little. */
    private static boolean allSeen(int[] seen) {
        boolean all = true;
        for (int i = 0; i < 9; i++) {
            all = all && seen[i] > 0 && seen[16 + i] > 0;
        }
        return all;
    }

    private static String show(int[] seen, int from, int to) {
        return java.util.Arrays.toString(java.util.Arrays.copyOfRange(seen, from, to));
    }

    private int same(String call, int got, int want) {
        calls++;
        if (got != want) {
            wrong++;
            System.out.println(call + " answered " + got + ", the model " + want);
        }
        return want;
    }

    private int pick(int bound) {
        return random.nextInt(bound);
    }

    /** Mostly a number near what is right, now and then one far from it. */
    private int near(int low, int high) {
        int dice = pick(20);
        if (dice == 0) {
            return random.nextInt();
        }
        if (dice == 1) {
            return pick(2) == 0 ? Integer.MIN_VALUE + pick(2) : Integer.MAX_VALUE - pick(2);
        }
        return low - 1 + pick(high - low + 3);
    }

    private int anyKind() {
        int c = near(0, y.count(0, 0) - 1);
        int[] kinds = {0, 1, 2, 3, 4, 5, 10 + c, 10 + c, 10 + c, 40 + c, 40 + c, 100 + pick(42), 6 + pick(4), c};
        return kinds[pick(kinds.length)];
    }

    private int argumentKind() {
        int c = pick(y.count(0, 0));
        int[] kinds = {1, 2, 5, 10 + c, 10 + c, 40 + c};
        return kinds[pick(kinds.length)];
    }

    private void cls(int parent) {
        same("cls(" + parent + ")", x.cls(parent), y.cls(parent));
    }

    private int op(int m, int[] o) {
        return same("op(" + m + ", " + o[0] + ", " + o[1] + ", " + o[2] + ")", x.op(m, o[0], o[1], o[2]), y.op(m, o[0], o[1], o[2]));
    }

    private void guard(int m, int from, int to, int handler, int c) {
        String call = "guard(" + m + ", " + from + ", " + to + ", " + handler + ", " + c + ")";
        same(call, x.guard(m, from, to, handler, c), y.guard(m, from, to, handler, c));
    }

    private void argument(int m, int kind) {
        same("argument(" + m + ", " + kind + ")", x.argument(m, kind), y.argument(m, kind));
    }

    private int compute(int m) {
        int rule = same("compute(" + m + ")", x.compute(m), y.compute(m));
        if (rule >= 0) {
            seen[rule]++;
        }
        return rule;
    }

    private void askAll(int m) {
        for (int what = 0; what < 4; what++) {
            same("told(" + m + ", " + what + ")", x.told(m, what), y.told(m, what));
        }
        for (int place = 0; place < y.count(2, m); place++) {
            same("height(" + m + ", " + place + ")", x.height(m, place), y.height(m, place));
            int form = same("form(" + m + ", " + place + ")", x.form(m, place), y.form(m, place));
            if (form >= 0) {
                seen[16 + form]++;
            }
            for (int k = 0; k < 16; k++) {
                same("frame(" + m + ", " + place + ", " + k + ")", x.frame(m, place, k), y.frame(m, place, k));
            }
        }
    }

    /** METHODS whose OPS mostly do not break a RULE on the straight way. */
    private int guidedRun() {
        int more = pick(7);
        for (int i = 0; i < more; i++) {
            cls(pick(4) == 0 ? ChainFrames.NONE : pick(y.count(0, 0)));
        }
        for (int m = 0; m < 3; m++) {
            int result = pick(4) == 0 ? argumentKind() : 0;
            same("method(" + result + ")", x.method(result), y.method(result));
            for (int i = pick(5); i > 0; i--) {
                argument(m, argumentKind());
            }
            writeOps(m, 3 + pick(m == 2 ? 37 : 15));
            if (pick(4) == 0) {
                int length = y.count(2, m);
                int from = pick(length);
                guard(m, from, from + 1 + pick(6), Math.min(39, pick(12) == 0 ? pick(40) : pick(length)), pick(y.count(0, 0)));
            }
            compute(m);
            askAll(m);
        }
        return wrong;
    }

    /** Jumps mostly lead from an empty PILE to another one: so THE WORK goes far. */
    private void writeOps(int m, int length) {
        Model.State[] met = new Model.State[length + 1];
        boolean[] empty = new boolean[length + 1];
        Model.State s = y.beginningOf(m);
        for (int place = 0; place < length; place++) {
            empty[place] = s.pile.isEmpty();
            int[] o = clearingOp(met, place, s);
            o = o == null ? fittingOp(m, s, place, empty) : o;
            op(m, o);
            Model.State next = y.after(m, s, o);
            s = next == null ? s : next;
            if (isJump(o) && o[1] > place && o[1] < length) {
                met[o[1]] = s.copy();
            }
            if (o[0] == 12 || o[0] == 22 || o[0] == 23) {
                s = met[place + 1] != null ? met[place + 1].copy() : handlerFrom(m, place + 1);
            }
        }
        if (pick(8) != 0) {
            op(m, new int[] {23, 0, 0});
        }
    }

    private static boolean isJump(int[] o) {
        return o[0] == 11 || o[0] == 12;
    }

    private int[] fittingOp(int m, Model.State s, int place, boolean[] empty) {
        int length = empty.length - 1;
        int[] o = likelyOp(length);
        for (int tries = 0; tries < 200 && pick(200) != 0; tries++) {
            Model.State next = y.after(m, s, o);
            boolean leads = !isJump(o) || o[1] >= length || pick(20) == 0
                || next != null && next.pile.isEmpty() && (o[1] > place || empty[o[1]]);
            if (next != null && leads) {
                return o;
            }
            o = likelyOp(length);
        }
        return o;
    }

    /** Something off the PILE, if a place that a jump leads to is near; else null. */
    private int[] clearingOp(Model.State[] met, int place, Model.State s) {
        int values = (int) s.pile.stream().filter(k -> k != 3).count();
        for (int p = place + 1; p < met.length && p <= place + values + 1; p++) {
            if (met[p] != null && pick(20) != 0) {
                int op = values == 0 ? 12 : s.pile.get(s.pile.size() - 1) == 3 ? 25 : 24;
                return new int[] {op, op == 12 ? p : 0, 0};
            }
        }
        return null;
    }

    /** What lies at a place that is not reached by OPS: mostly it is made a handler of some before it. */
    private Model.State handlerFrom(int m, int place) {
        Model.State s = y.beginningOf(m);
        if (place < 40 && pick(5) != 0) {
            int c = pick(y.count(0, 0));
            int from = pick(place);
            guard(m, from, from + 1 + pick(place - from), place, c);
            s.pile.add(10 + c);
        }
        return s;
    }

    private int[] likelyOp(int length) {
        int op = pick(26);
        if ((op == 22 || op == 23 || op == 12) && pick(3) != 0) {
            op = 11;
        }
        int c = pick(y.count(0, 0));
        int a = switch (op) {
            case 2, 3, 6, 7 -> pick(pick(2) == 0 ? 8 : 3);
            case 4, 5 -> pick(pick(2) == 0 ? 7 : 3);
            case 11, 12 -> pick(40) == 0 ? length + pick(50) : pick(length);
            case 19 -> c - 1;
            default -> c;
        };
        return new int[] {op, a, pick(3) == 0 ? argumentKind() : 0};
    }

    /** Any call with any numbers, up to 512 of them. */
    private int wildRun() {
        while (calls < 500) {
            wildCall();
        }
        return wrong;
    }

    private void wildCall() {
        int m = near(0, y.count(1, 0) - 1);
        int length = Math.max(0, y.count(2, m));
        int c = near(0, y.count(0, 0) - 1);
        switch (pick(14)) {
            case 0 -> cls(c);
            case 1 -> {
                int d = near(0, y.count(0, 0) - 1);
                same("fits(" + c + ", " + d + ")", x.fits(c, d), y.fits(c, d));
            }
            case 2, 3 -> {
                int k = anyKind();
                int l = anyKind();
                same("join(" + k + ", " + l + ")", x.join(k, l), y.join(k, l));
            }
            case 4 -> {
                int k = anyKind();
                same("method(" + k + ")", x.method(k), y.method(k));
            }
            case 5 -> argument(m, anyKind());
            case 6, 7 -> op(m, pick(2) == 0 ? likelyOp(length + 1) : new int[] {near(0, 25), near(0, 8), anyKind()});
            case 8 -> guard(m, near(0, length), near(0, 40), near(0, 39), c);
            case 9 -> compute(m);
            case 10 -> {
                int what = near(0, 3);
                same("told(" + m + ", " + what + ")", x.told(m, what), y.told(m, what));
            }
            case 11 -> {
                int place = near(0, length - 1);
                int k = near(0, 15);
                same("frame(" + m + ", " + place + ", " + k + ")", x.frame(m, place, k), y.frame(m, place, k));
            }
            case 12 -> {
                int place = near(0, length - 1);
                same("height(" + m + ", " + place + ")", x.height(m, place), y.height(m, place));
                same("form(" + m + ", " + place + ")", x.form(m, place), y.form(m, place));
            }
            default -> {
                int what = near(0, 3);
                same("count(" + what + ", " + m + ")", x.count(what, m), y.count(what, m));
            }
        }
    }
}
