/** Promises 5 to 8 and 14: method, argument, op, guard, count; and what undoes THE WORK. */
public final class MethodsTest extends Asked {
    public static void main(String[] args) {
        results();
        arguments();
        argumentsLieInLocals();
        opNumbers();
        opFull();
        guards();
        counts();
        undoing();
        check.end();
    }

    private static void results() {
        ChainFrames x = new ChainFrames();
        for (int bad : new int[] {-1, 3, 4, 6, 9, 12, 25, 39, 42, 55, 56, 99, 100, 139, LEAST, GREATEST}) {
            check.due("method(" + bad + ")", x.method(bad), BAD);
        }
        int number = 0;
        for (int right : new int[] {0, 1, 2, 5, 11, 41}) {
            check.due("method(" + right + ")", x.method(right), number++);
        }
        check.due("a seventh method", x.method(0), FULL);
        check.due("BAD before FULL", x.method(3), BAD);
        check.due("methods", x.count(1, 0), 6);
        check.due("of the sixth", x.count(2, 5), 0);
        check.due("of a seventh", x.count(2, 6), BAD);
        check.due("class 2", x.cls(0), 2);
        check.due("a new class is a result, but FULL", x.method(12), FULL);
    }

    private static void arguments() {
        ChainFrames x = new ChainFrames();
        check.due("no method", x.argument(0, 1), BAD);
        x.method(0);
        for (int bad : new int[] {-1, 0, 3, 4, 6, 9, 12, 26, 39, 42, 56, 99, 100, LEAST, GREATEST}) {
            check.due("argument(0, " + bad + ")", x.argument(0, bad), BAD);
        }
        for (int bad : new int[] {-1, 1, 6, LEAST, GREATEST}) {
            check.due("argument(" + bad + ", 1)", x.argument(bad, 1), BAD);
        }
        check.due("an int", x.argument(0, 1), 1);
        check.due("a long", x.argument(0, 2), 3);
        check.due("a row of ints", x.argument(0, 5), 4);
        check.due("a thing", x.argument(0, 11), 5);
        check.due("a row of things", x.argument(0, 40), 6);
        check.due("an int", x.argument(0, 1), 7);
        check.due("a long does not go in", x.argument(0, 2), FULL);
        check.due("an int still does", x.argument(0, 1), 8);
        check.due("an int more", x.argument(0, 1), FULL);
        check.due("BAD before FULL", x.argument(0, 3), BAD);
    }

    private static void argumentsLieInLocals() {
        Program p = new Program(0, 1, 2, 5, 12, 45, 2).ops(new int[][] {{23}});
        check.due("compute", p.compute(), 0);
        check.due("arguments in locals", p.locals(0), "1 2 3 5 12 45 2 3");
        Program few = new Program(0, 2).ops(new int[][] {{23}});
        check.due("compute", few.compute(), 0);
        check.due("the others are 0", few.x.frame(few.m, 0, 2), 0);
        check.due("the others are 0", few.x.frame(few.m, 0, 7), 0);
        check.due("an empty pile", few.x.height(few.m, 0), 0);
    }

    private static void opIs(ChainFrames x, int op, int a, int b, int want) {
        check.due("op(0, " + op + ", " + a + ", " + b + ")", x.op(0, op, a, b), want);
    }

    private static void opNumbers() {
        ChainFrames x = new ChainFrames();
        check.due("no method", x.op(0, 0, 0, 0), BAD);
        x.method(0);
        for (int bad : new int[] {-1, 26, 100, LEAST, GREATEST}) {
            opIs(x, bad, 0, 0, BAD);
            check.due("op of method " + bad, x.op(bad, 0, 0, 0), BAD);
        }
        for (int op : new int[] {2, 3, 6, 7}) {
            opIs(x, op, -1, 0, BAD);
            opIs(x, op, 8, 0, BAD);
            opIs(x, op, LEAST, 0, BAD);
            opIs(x, op, GREATEST, 0, BAD);
        }
        for (int op : new int[] {4, 5}) {
            opIs(x, op, -1, 0, BAD);
            opIs(x, op, 7, 0, BAD);
            opIs(x, op, GREATEST, 0, BAD);
        }
        for (int op : new int[] {13, 15, 16, 18}) {
            opIs(x, op, -1, 0, BAD);
            opIs(x, op, 2, 0, BAD);
            opIs(x, op, LEAST, 0, BAD);
            opIs(x, op, GREATEST, 0, BAD);
        }
        opIs(x, 19, -2, 0, BAD);
        opIs(x, 19, 2, 0, BAD);
        opIs(x, 11, -1, 0, BAD);
        opIs(x, 12, -1, 0, BAD);
        opIs(x, 12, LEAST, 0, BAD);
        for (int bad : new int[] {-1, 3, 4, 6, 12, 39, 42, 56, 100, LEAST, GREATEST}) {
            opIs(x, 16, 0, bad, BAD);
        }
        check.due("refused changes nothing", x.count(2, 0), 0);
        int[][] right = {{2, 7, -9}, {3, 0, 0}, {4, 6, 0}, {5, 0, 99}, {6, 7, 0}, {7, 7, 0}, {13, 1, -9}, {15, 0, 0}, {16, 1, 0},
            {16, 0, 2}, {16, 0, 41}, {18, 1, 0}, {19, NONE, 0}, {19, 1, 0}, {11, 39, 0}, {12, GREATEST, 0}, {11, 40, LEAST},
            {22, 99, 99}, {22, LEAST, 0}, {0, -5, -5}, {25, GREATEST, LEAST}};
        for (int place = 0; place < right.length; place++) {
            opIs(x, right[place][0], right[place][1], right[place][2], place);
        }
        check.due("class 2", x.cls(NONE), 2);
        opIs(x, 13, 2, 0, right.length);
        opIs(x, 16, 2, 42, right.length + 1);
    }

    private static void opFull() {
        ChainFrames x = new ChainFrames();
        x.method(0);
        for (int place = 0; place < 40; place++) {
            opIs(x, 0, 0, 0, place);
        }
        opIs(x, 0, 0, 0, FULL);
        opIs(x, 2, 8, 0, BAD);
        opIs(x, 26, 0, 0, BAD);
        check.due("ops", x.count(2, 0), 40);
        x.method(0);
        check.due("another method has places", x.op(1, 0, 0, 0), 0);
    }

    private static void guardIs(ChainFrames x, int[] numbers, int want) {
        String call = "guard(0, " + numbers[0] + ", " + numbers[1] + ", " + numbers[2] + ", " + numbers[3] + ")";
        check.due(call, x.guard(0, numbers[0], numbers[1], numbers[2], numbers[3]), want);
    }

    private static void guards() {
        ChainFrames x = new ChainFrames();
        guardIs(x, new int[] {0, 1, 0, 0}, BAD);
        x.method(0);
        int[][] bad = {{-1, 1, 0, 0}, {0, 0, 0, 0}, {5, 4, 0, 0}, {0, 41, 0, 0}, {40, 41, 0, 0}, {40, 40, 0, 0}, {0, 1, -1, 0},
            {0, 1, 40, 0}, {0, 1, 0, -1}, {0, 1, 0, 2}, {LEAST, GREATEST, 0, 0}, {0, GREATEST, 0, 0}, {GREATEST, LEAST, 0, 0},
            {0, 1, LEAST, 0}, {0, 1, GREATEST, 0}, {0, 1, 0, LEAST}, {0, 1, 0, GREATEST}};
        for (int[] numbers : bad) {
            guardIs(x, numbers, BAD);
        }
        check.due("guard of no method", x.guard(1, 0, 1, 0, 0), BAD);
        check.due("guard of method -1", x.guard(-1, 0, 1, 0, 0), BAD);
        check.due("refused changes nothing", x.count(3, 0), 0);
        int[][] right = {{0, 1, 0, 0}, {0, 40, 39, 1}, {39, 40, 39, 0}, {0, 1, 0, 0}, {3, 9, 20, 1}, {0, 2, 1, 0}};
        for (int g = 0; g < right.length; g++) {
            guardIs(x, right[g], g);
        }
        guardIs(x, new int[] {0, 1, 0, 0}, FULL);
        guardIs(x, new int[] {0, 41, 0, 0}, BAD);
        check.due("guards", x.count(3, 0), 6);
    }

    private static void counts() {
        ChainFrames x = new ChainFrames();
        check.due("count(0, -7)", x.count(0, -7), 2);
        check.due("count(1, 99)", x.count(1, 99), 0);
        x.method(0);
        x.method(1);
        x.op(1, 0, 0, 0);
        x.op(1, 0, 0, 0);
        x.guard(1, 0, 1, 0, 0);
        x.cls(0);
        check.due("classes", x.count(0, LEAST), 3);
        check.due("methods", x.count(1, GREATEST), 2);
        check.due("ops of 0", x.count(2, 0), 0);
        check.due("ops of 1", x.count(2, 1), 2);
        check.due("guards of 0", x.count(3, 0), 0);
        check.due("guards of 1", x.count(3, 1), 1);
        for (int bad : new int[] {-1, 2, 6, LEAST, GREATEST}) {
            check.due("count(2, " + bad + ")", x.count(2, bad), BAD);
            check.due("count(3, " + bad + ")", x.count(3, bad), BAD);
        }
        for (int bad : new int[] {-1, 4, LEAST, GREATEST}) {
            check.due("count(" + bad + ", 0)", x.count(bad, 0), BAD);
        }
    }

    private static void undoing() {
        Program p = new Program(0).ops(new int[][] {{12, 1}, {23}});
        ChainFrames x = p.x;
        check.due("before", x.told(0, 1), NO);
        p.compute();
        x.op(0, 26, 0, 0);
        x.argument(0, 0);
        x.guard(0, 0, 0, 0, 0);
        x.cls(0);
        x.method(0);
        x.op(1, 0, 0, 0);
        check.due("refused, or of others: nothing is undone", x.told(0, 1), 2);
        x.op(0, 23, 0, 0);
        askedAfterUndone(x);
        p.compute();
        check.due("done again", x.told(0, 1), 2);
        x.argument(0, 1);
        askedAfterUndone(x);
        p.compute();
        check.due("done again", x.frame(0, 0, 0), 1);
        x.guard(0, 0, 1, 2, 0);
        askedAfterUndone(x);
        check.due("the new guard counts", p.compute(), 0);
        check.due("its handler has a frame", x.height(0, 2), 1);
        fullUndoesNothing();
    }

    private static void fullUndoesNothing() {
        Program p = new Program(0, 2, 2, 2, 2);
        for (int place = 0; place < 40; place++) {
            p.ops(new int[][] {{23}});
        }
        for (int g = 0; g < 6; g++) {
            p.guard(39, 40, 39, 0);
        }
        p.compute();
        check.due("op", p.x.op(0, 0, 0, 0), FULL);
        check.due("guard", p.x.guard(0, 0, 1, 0, 0), FULL);
        check.due("argument", p.x.argument(0, 1), FULL);
        check.due("FULL undoes nothing", p.x.told(0, 1), 1);
        check.due("the last place of a full method", p.x.height(0, 39), NONE);
        check.due("its locals", p.x.told(0, 3), 8);
        check.due("its form", p.x.form(0, 39), NONE);
    }

    private static void askedAfterUndone(ChainFrames x) {
        check.due("told", x.told(0, 0), NO);
        check.due("told what", x.told(0, 4), BAD);
        check.due("frame", x.frame(0, 0, 0), NO);
        check.due("frame k", x.frame(0, 0, 16), BAD);
        check.due("height", x.height(0, 0), NO);
        check.due("height where", x.height(0, 40), BAD);
        check.due("form", x.form(0, 1), NO);
        check.due("form where", x.form(0, -1), BAD);
    }
}
