/** The promises 1 to 14, sentence by sentence. */
final class SentencesOfPromises extends Asked {
    private SentencesOfPromises() {
    }

    static void tell(Sentences s) {
        tellNewObject(s);
        tellClasses(s);
        tellKinds(s);
        tellMethod(s);
        tellArgument(s);
        tellOp(s);
        tellGuard(s);
        tellCompute(s);
        tellTold(s);
        tellFrame(s);
        tellHeight(s);
        tellForm(s);
        tellCount(s);
    }

    private static void tellNewObject(Sentences s) {
        s.section("Promise 1: A new object");
        s.sentence("CLASSES 0 and 1,", () -> {
            ChainFrames x = new ChainFrames();
            check.due("count(0, 0)", x.count(0, 0), 2);
            check.due("fits(1, 0)", x.fits(1, 0), 1);
            check.due("fits(0, 1)", x.fits(0, 1), 0);
            check.due("fits(2, 0)", x.fits(2, 0), BAD);
            check.due("the next one", x.cls(1), 2);
        });
        s.sentence("no METHODS.", () -> {
            ChainFrames x = new ChainFrames();
            check.due("count(1, 0)", x.count(1, 0), 0);
            check.due("compute(0)", x.compute(0), BAD);
            check.due("the next one", x.method(0), 0);
            check.due("in another object", new ChainFrames().count(1, 0), 0);
        });
    }

    private static void tellClasses(Sentences s) {
        s.section("Promise 2: cls");
        s.sentence("A CLASS below another one, or (parent NONE) a FACE: its number.", () -> {
            ChainFrames x = new ChainFrames();
            check.due("cls(0)", x.cls(0), 2);
            check.due("cls(1)", x.cls(1), 3);
            check.due("cls(NONE)", x.cls(NONE), 4);
            check.due("cls(3)", x.cls(3), 5);
            check.due("fits(5, 1)", x.fits(5, 1), 1);
            check.due("fits(2, 1)", x.fits(2, 1), 0);
            check.due("fits(1, 4), a face", x.fits(1, 4), 1);
            check.due("fits(1, 5), no face", x.fits(1, 5), 0);
        });
        s.sentence("BAD (also a FACE as parent);", () -> {
            ChainFrames x = new ChainFrames();
            for (int bad : new int[] {-2, 2, 16, LEAST, GREATEST}) {
                check.due("cls(" + bad + ")", x.cls(bad), BAD);
            }
            x.cls(NONE);
            check.due("cls(2), a face", x.cls(2), BAD);
        });
        s.sentence("FULL: above 16.", () -> {
            ChainFrames x = new ChainFrames();
            for (int c = 2; c < 16; c++) {
                check.due("class " + c, x.cls(0), c);
            }
            check.due("below 0", x.cls(0), FULL);
            check.due("below the last", x.cls(15), FULL);
            check.due("a face", x.cls(NONE), FULL);
            check.due("classes", x.count(0, 0), 16);
        });
        s.section("Promise 3: fits");
        s.sentence("Whether CLASS c FITS d: 1, 0.", () -> {
            ChainFrames x = new ChainFrames();
            x.cls(1);
            x.cls(NONE);
            int[][] want = {{1, 0, 0, 1}, {1, 1, 0, 1}, {1, 1, 1, 1}, {1, 0, 0, 1}};
            for (int c = 0; c < 4; c++) {
                for (int d = 0; d < 4; d++) {
                    check.due("fits(" + c + ", " + d + ")", x.fits(c, d), want[c][d]);
                }
            }
        });
        s.sentence("BAD.", () -> {
            ChainFrames x = new ChainFrames();
            x.cls(NONE);
            for (int bad : new int[] {-1, 3, 16, LEAST, GREATEST}) {
                check.due("fits(" + bad + ", 0)", x.fits(bad, 0), BAD);
                check.due("fits(" + bad + ", 2), a face", x.fits(bad, 2), BAD);
                check.due("fits(0, " + bad + ")", x.fits(0, bad), BAD);
                check.due("fits(" + bad + ", " + bad + ")", x.fits(bad, bad), BAD);
            }
        });
    }

    private static void tellKinds(Sentences s) {
        s.section("Promise 4: join");
        s.sentence("The JOIN of two KINDS (0 to 5, 10 to 55 of CLASSES there, 100 to 139).", () -> {
            ChainFrames x = new ChainFrames();
            for (int c = 2; c < 16; c++) {
                x.cls(0);
            }
            for (int k : new int[] {0, 1, 2, 3, 4, 5, 10, 11, 24, 25, 40, 41, 54, 55, 100, 101, 138, 139}) {
                check.due("join(" + k + ", " + k + ")", x.join(k, k), k);
            }
            check.due("join(25, 55)", x.join(25, 55), 10);
            check.due("join(24, 25)", x.join(24, 25), 10);
            check.due("join(54, 55)", x.join(54, 55), 40);
            check.due("join(4, 55)", x.join(4, 55), 55);
            check.due("join(139, 138)", x.join(139, 138), 0);
        });
        s.sentence("BAD.", () -> {
            ChainFrames x = new ChainFrames();
            badJoins(x, -1, 6, 9, 12, 25, 39, 42, 55, 56, 99, 140, LEAST, GREATEST);
            for (int c = 2; c < 16; c++) {
                x.cls(0);
            }
            badJoins(x, -1, 6, 7, 8, 9, 26, 39, 56, 99, 140, LEAST, GREATEST);
        });
    }

    private static void badJoins(ChainFrames x, int... kinds) {
        for (int bad : kinds) {
            check.due("join(" + bad + ", 4)", x.join(bad, 4), BAD);
            check.due("join(0, " + bad + ")", x.join(0, bad), BAD);
            check.due("join(" + bad + ", " + bad + ")", x.join(bad, bad), BAD);
        }
    }

    private static void tellMethod(Sentences s) {
        s.section("Promise 5: method");
        s.sentence("A METHOD with a RESULT: its number.", () -> {
            ChainFrames x = new ChainFrames();
            int number = 0;
            for (int result : new int[] {0, 1, 2, 5, 11, 41}) {
                check.due("method(" + result + ")", x.method(result), number++);
            }
            check.due("its result is wanted", new Program(1).ops(op(23)).compute(), 2);
        });
        s.sentence("BAD;", () -> {
            ChainFrames x = new ChainFrames();
            for (int bad : new int[] {-1, 3, 4, 6, 9, 12, 25, 39, 42, 55, 99, 100, 139, LEAST, GREATEST}) {
                check.due("method(" + bad + ")", x.method(bad), BAD);
            }
            x.cls(0);
            check.due("of a class that is there now", x.method(12), 0);
            check.due("of a row of it", x.method(42), 1);
        });
        s.sentence("FULL: above 6.", () -> {
            ChainFrames x = new ChainFrames();
            for (int m = 0; m < 6; m++) {
                check.due("method " + m, x.method(0), m);
            }
            check.due("a seventh", x.method(0), FULL);
            check.due("methods", x.count(1, 0), 6);
            check.due("the sixth has ops", x.op(5, 23, 0, 0), 0);
            check.due("and is right", x.compute(5), 0);
        });
    }

    private static void tellArgument(Sentences s) {
        s.section("Promise 6: argument");
        s.sentence("An ARGUMENT more of a METHOD: how many LOCALS they take.", () -> {
            ChainFrames x = new ChainFrames();
            x.method(0);
            x.method(0);
            check.due("an int", x.argument(0, 1), 1);
            check.due("a long", x.argument(0, 2), 3);
            check.due("a row of ints", x.argument(0, 5), 4);
            check.due("of another method", x.argument(1, 2), 2);
            check.due("a thing", x.argument(0, 11), 5);
            check.due("a row of things", x.argument(0, 40), 6);
            check.due("a long", x.argument(0, 2), 8);
        });
        s.sentence("BAD;", () -> {
            ChainFrames x = new ChainFrames();
            check.due("argument(0, 1), no method", x.argument(0, 1), BAD);
            x.method(0);
            for (int bad : new int[] {-1, 0, 3, 4, 6, 9, 12, 25, 39, 42, 55, 99, 100, LEAST, GREATEST}) {
                check.due("argument(0, " + bad + ")", x.argument(0, bad), BAD);
            }
            for (int bad : new int[] {-1, 1, 6, LEAST, GREATEST}) {
                check.due("argument(" + bad + ", 1)", x.argument(bad, 1), BAD);
            }
        });
        s.sentence("FULL: it would be more than 8.", () -> {
            Program ints = new Program(0, 1, 1, 1, 1, 1, 1, 1);
            check.due("a long into the last local", ints.x.argument(0, 2), FULL);
            check.due("an int into the last local", ints.x.argument(0, 1), 8);
            check.due("an int more", ints.x.argument(0, 1), FULL);
            Program longs = new Program(0, 2, 2, 2);
            check.due("a long into the last two", longs.x.argument(0, 2), 8);
            check.due("a long more", longs.x.argument(0, 2), FULL);
        });
        s.sentence("THE WORK on it is undone (as by op(), guard()).", SentencesOfPromises::undoing);
    }

    private static void undoing() {
        Program p = new Program(0).ops(op(12, 1), op(23));
        p.x.method(0);
        p.x.op(1, 23, 0, 0);
        p.x.compute(1);
        check.due("compute", p.compute(), 0);
        check.due("argument", p.x.argument(0, 1), 1);
        isUndone(p);
        check.due("op", p.x.op(0, 23, 0, 0), 2);
        isUndone(p);
        check.due("guard", p.x.guard(0, 0, 1, 2, 0), 0);
        isUndone(p);
        check.due("guard of no place with an op", p.x.guard(0, 39, 40, 2, 0), 1);
        isUndone(p);
        check.due("the work on another one", p.x.told(1, 1), 1);
        check.due("told", p.x.told(0, 1), 3);
        p.x.cls(0);
        p.x.method(0);
        p.x.op(1, 23, 0, 0);
        check.due("it is not undone by others", p.x.told(0, 1), 3);
    }

    /** It is asked, and THE WORK is done once more. */
    private static void isUndone(Program p) {
        for (int what = 0; what < 4; what++) {
            check.due("told " + what, p.x.told(0, what), NO);
        }
        check.due("frame", p.x.frame(0, 0, 0), NO);
        check.due("height", p.x.height(0, 0), NO);
        check.due("form", p.x.form(0, 1), NO);
        check.due("compute", p.compute(), 0);
        check.due("frame", p.x.frame(0, 0, 0), 1);
    }

    private static void opIs(ChainFrames x, int op, int a, int b, int want) {
        check.due("op(0, " + op + ", " + a + ", " + b + ")", x.op(0, op, a, b), want);
    }

    /** OPS whose a is right from low to high alone, on objects with CLASSES 0 and 1. */
    private static void rangeOfA(int low, int high, int... ops) {
        for (int op : ops) {
            ChainFrames x = new ChainFrames();
            x.method(0);
            opIs(x, op, low - 1, 0, BAD);
            opIs(x, op, LEAST, 0, BAD);
            if (high < GREATEST) {
                opIs(x, op, high + 1, 0, BAD);
                opIs(x, op, GREATEST, 0, BAD);
            }
            opIs(x, op, low, 0, 0);
            opIs(x, op, high, 0, 1);
        }
    }

    private static void tellOp(Sentences s) {
        s.section("Promise 7: op");
        s.sentence("An OP more: its place.", () -> {
            ChainFrames x = new ChainFrames();
            x.method(0);
            x.method(0);
            opIs(x, 0, 0, 0, 0);
            opIs(x, 25, -9, -9, 1);
            opIs(x, 26, 0, 0, BAD);
            check.due("of another method", x.op(1, 0, 0, 0), 0);
            opIs(x, 14, GREATEST, LEAST, 2);
        });
        s.sentence("BAD: op;", () -> {
            ChainFrames x = new ChainFrames();
            check.due("no method", x.op(0, 0, 0, 0), BAD);
            x.method(0);
            for (int bad : new int[] {-1, 26, LEAST, GREATEST}) {
                opIs(x, bad, 0, 0, BAD);
            }
            for (int bad : new int[] {-1, 1, 6, LEAST, GREATEST}) {
                check.due("op of method " + bad, x.op(bad, 0, 0, 0), BAD);
            }
            for (int op = 0; op < 26; op++) {
                opIs(x, op, 0, 0, op);
            }
        });
        s.sentence("a of 2, 3, 6, 7 not 0 .. 7,", () -> rangeOfA(0, 7, 2, 3, 6, 7));
        s.sentence("of 4, 5 not 0 .. 6,", () -> rangeOfA(0, 6, 4, 5));
        s.sentence("of 13, 15, 16, 18, 22 no CLASS (of 22 a is no matter),", () -> {
            rangeOfA(0, 1, 13, 15, 16, 18);
            ChainFrames x = new ChainFrames();
            x.method(0);
            opIs(x, 22, -1, 0, 0);
            opIs(x, 22, 2, 0, 1);
            opIs(x, 22, LEAST, 0, 2);
            opIs(x, 22, GREATEST, 0, 3);
            opIs(x, 13, 2, 0, BAD);
            x.cls(NONE);
            opIs(x, 13, 2, 0, 4);
        });
        s.sentence("of 19 neither NONE nor a CLASS,", () -> {
            rangeOfA(NONE, 1, 19);
            ChainFrames x = new ChainFrames();
            x.method(0);
            opIs(x, 19, 0, 0, 0);
        });
        s.sentence("of 11, 12 below 0,", () -> rangeOfA(0, GREATEST, 11, 12));
        s.sentence("b of 16 no RESULT;", () -> {
            ChainFrames x = new ChainFrames();
            x.method(0);
            for (int bad : new int[] {-1, 3, 4, 6, 9, 12, 25, 39, 42, 55, 99, 100, LEAST, GREATEST}) {
                opIs(x, 16, 0, bad, BAD);
            }
            int place = 0;
            for (int result : new int[] {0, 1, 2, 5, 10, 11, 40, 41}) {
                opIs(x, 16, 0, result, place++);
            }
            opIs(x, 18, 0, 3, place);
        });
        s.sentence("FULL: above 40.", () -> {
            ChainFrames x = new ChainFrames();
            x.method(0);
            for (int place = 0; place < 40; place++) {
                opIs(x, place < 39 ? 12 : 23, 39, 0, place);
            }
            opIs(x, 0, 0, 0, FULL);
            check.due("ops", x.count(2, 0), 40);
            check.due("compute", x.compute(0), 0);
            check.due("the last place has a frame", x.height(0, 39), 0);
            check.due("its last local", x.frame(0, 39, 7), 0);
            check.due("its form", x.form(0, 39), 0);
            check.due("wanted locals", x.told(0, 3), 0);
        });
    }

    private static void guardIs(ChainFrames x, int[] numbers, int want) {
        String call = "guard(0, " + numbers[0] + ", " + numbers[1] + ", " + numbers[2] + ", " + numbers[3] + ")";
        check.due(call, x.guard(0, numbers[0], numbers[1], numbers[2], numbers[3]), want);
    }

    private static void tellGuard(Sentences s) {
        s.section("Promise 8: guard");
        s.sentence("A GUARD of places from .. to (without to): its number.", () -> {
            ChainFrames x = new ChainFrames();
            x.method(0);
            x.method(0);
            guardIs(x, of(0, 1, 0, 0), 0);
            guardIs(x, of(0, 1, 0, 0), 1);
            check.due("of another method", x.guard(1, 0, 1, 0, 0), 0);
            ends("to, with an op", new Program(0).ops(op(12, 2), op(23), op(23)).guard(1, 2, 39, 0), 0, NONE, 2);
            ends("from", new Program(0).ops(op(12, 2), op(23), op(23)).guard(2, 3, 39, 0), 6, 2, 2);
            ends("the last", new Program(0).ops(op(12, 2), op(23), op(23)).guard(1, 3, 39, 0), 6, 2, 2);
        });
        s.sentence("BAD: not 0 .. from below to .. 40;", () -> {
            ChainFrames x = new ChainFrames();
            guardIs(x, of(0, 1, 0, 0), BAD);
            x.method(0);
            int[][] bad = {{-1, 1}, {0, 0}, {1, 0}, {5, 5}, {0, 41}, {39, 41}, {40, 40}, {40, 41}, {LEAST, GREATEST}, {LEAST, 1},
                {0, GREATEST}, {GREATEST, LEAST}, {-2, -1}};
            for (int[] places : bad) {
                guardIs(x, of(places[0], places[1], 0, 0), BAD);
            }
            for (int m : new int[] {-1, 1, 6, LEAST, GREATEST}) {
                check.due("guard of method " + m, x.guard(m, 0, 1, 0, 0), BAD);
            }
            guardIs(x, of(0, 40, 0, 0), 0);
            guardIs(x, of(39, 40, 0, 0), 1);
            guardIs(x, of(0, 1, 0, 0), 2);
        });
        s.sentence("handler not 0 .. 39;", () -> {
            ChainFrames x = new ChainFrames();
            x.method(0);
            for (int bad : new int[] {-1, 40, LEAST, GREATEST}) {
                guardIs(x, of(0, 1, bad, 0), BAD);
            }
            guardIs(x, of(0, 1, 0, 0), 0);
            guardIs(x, of(0, 1, 39, 0), 1);
        });
        s.sentence("cls;", () -> {
            ChainFrames x = new ChainFrames();
            x.method(0);
            for (int bad : new int[] {-1, 2, 16, LEAST, GREATEST}) {
                guardIs(x, of(0, 1, 0, bad), BAD);
            }
            guardIs(x, of(0, 1, 0, 0), 0);
            guardIs(x, of(0, 1, 0, 1), 1);
            x.cls(NONE);
            guardIs(x, of(0, 1, 0, 2), 2);
        });
        s.sentence("FULL: above 6.", () -> {
            ChainFrames x = new ChainFrames();
            x.method(0);
            for (int g = 0; g < 6; g++) {
                guardIs(x, of(0, 1, 0, 0), g);
            }
            guardIs(x, of(0, 1, 0, 0), FULL);
            check.due("guards", x.count(3, 0), 6);
            x.method(0);
            check.due("of another method", x.guard(1, 0, 1, 0, 0), 0);
            Program p = new Program(0).ops(op(23), op(23));
            for (int g = 0; g < 6; g++) {
                p.guard(g < 5 ? 2 : 0, g < 5 ? 40 : 1, 1, 0);
            }
            form("the handler of the sixth", p, 1, 1);
        });
        s.sentence("(Places without OPS are no matter;", () -> {
            Program p = new Program(0).guard(0, 40, 2, 0).guard(39, 40, 39, 0).ops(op(12, 1), op(23), op(23));
            ends("places with ops, and others", p, 0, NONE, 3);
            check.due("the handler's pile", p.pile(2), "10");
            ends("no op at all", new Program(0).ops(op(23)).guard(1, 40, 39, 0), 0, NONE, 1);
        });
        s.sentence("a handler that is not there is RULE 6, as it is met.)", () -> {
            ends("met", new Program(0).ops(op(0), op(23)).guard(1, 2, 2, 0), 6, 1, 2);
            ends("not met", new Program(0).ops(op(23), op(23)).guard(1, 2, 2, 0), 0, NONE, 1);
            Program p = new Program(0).ops(op(23)).guard(0, 1, 1, 0);
            ends("not there", p, 6, 0, 1);
            ends("there now", p.ops(op(23)), 0, NONE, 2);
        });
    }

    private static void tellCompute(Sentences s) {
        s.section("Promise 9: compute");
        s.sentence("THE WORK on a METHOD: 0 it is right, else the RULE that is broken.", () -> {
            check.due("right", new Program(0).ops(op(23)).compute(), 0);
            check.due("1", new Program(0).ops(above(8, 0)).compute(), 1);
            check.due("2", new Program(0).ops(op(24)).compute(), 2);
            check.due("3", new Program(0).ops(op(1), op(24)).compute(), 3);
            check.due("4", new Program(0).ops(op(2, 0)).compute(), 4);
            check.due("5", new Program(0).ops(op(0)).compute(), 5);
            check.due("6", new Program(0).ops(op(12, 1)).compute(), 6);
            check.due("7", new Program(0).ops(op(13, 2), op(12, 1)).compute(), 7);
            check.due("8", new Program(0).ops(op(0), op(12, 0)).compute(), 8);
        });
        s.sentence("BAD;", () -> {
            ChainFrames x = new ChainFrames();
            check.due("no methods", x.compute(0), BAD);
            x.method(0);
            x.op(0, 23, 0, 0);
            for (int bad : new int[] {-1, 1, 6, LEAST, GREATEST}) {
                check.due("compute(" + bad + ")", x.compute(bad), BAD);
            }
        });
        s.sentence("NO: it has no OPS.", () -> {
            Program p = new Program(0, 1).guard(0, 1, 0, 0);
            check.due("no ops", p.compute(), NO);
            check.due("told", p.x.told(0, 0), NO);
            check.due("one op", p.ops(op(23)).compute(), 8);
        });
    }

    private static void told(String name, Program p, int what, int want) {
        p.compute();
        check.due(name, p.x.told(0, what), want);
    }

    private static void tellTold(Sentences s) {
        s.section("Promise 10: told");
        s.sentence("Of the latest THE WORK on a METHOD:", () -> {
            Program p = new Program(0).ops(op(1), op(3, 5));
            ends("the first", p, 3, 1, 2);
            told("the pile", p, 2, 2);
            told("the locals", p, 3, 6);
            p.guard(0, 1, 39, 0);
            ends("the second", p, 6, 0, 1);
            told("the pile", p, 2, 0);
            told("the locals", p, 3, 0);
            Program q = new Program(0).ops(op(12, 1));
            ends("broken", q, 6, 0, 1);
            ends("right now", q.ops(op(23)), 0, NONE, 2);
            ends("once more", q, 0, NONE, 2);
            Program left = new Program(0).ops(op(12, 3), op(23), op(23), op(0), op(11, 1));
            ends("a place is left to be looked at", left, 5, 4, 3);
            ends("it is not any more, before it is met", left.ops(op(23)), 0, NONE, 5);
        });
        s.sentence("0 the place at which a RULE is broken (NONE),", () -> {
            told("at place 0", new Program(0).ops(op(24)), 0, 0);
            told("at place 2", new Program(0).ops(op(0), op(24), op(24)), 0, 2);
            told("by a guard", new Program(0).ops(op(0), op(23)).guard(1, 2, 39, 0), 0, 1);
            told("at none", new Program(0).ops(op(0), op(23)), 0, NONE);
            Program last = new Program(0);
            for (int place = 0; place < 40; place++) {
                last.ops(op(12, place + 1));
            }
            told("at the last of forty", last, 0, 39);
        });
        s.sentence("1 how often a place was gone through,", () -> {
            told("once", new Program(0).ops(op(23)), 1, 1);
            told("the one that breaks a rule, too", new Program(0).ops(op(0), op(24), op(24)), 1, 3);
            told("not those without a frame", new Program(0).ops(op(12, 2), op(23), op(23)), 1, 2);
            told("0 and 1 twice", new Program(0, 13, 14).ops(op(6, 1), op(7, 0), op(12, 0)), 1, 5);
        });
        s.sentence("2 the most places of the PILE in any FRAME,", () -> {
            told("none", new Program(0).ops(op(23)), 2, 0);
            told("a long and an int", new Program(0).ops(op(1), op(0), op(23)), 2, 3);
            told("not the last", new Program(0).ops(op(1), op(25), op(23)), 2, 2);
            told("a handler's", new Program(0).ops(op(23), op(23)).guard(0, 1, 1, 0), 2, 1);
            told("a handler's that is not gone through", new Program(0).ops(op(24), op(23)).guard(0, 1, 1, 0), 2, 1);
            told("eight", new Program(0).ops(above(8, 23)), 2, 8);
        });
        s.sentence("or behind an OP that was done (without a RULE before that),", () -> {
            told("5 behind it", new Program(0).ops(op(1)), 2, 2);
            told("6 behind it", new Program(0).ops(op(1), op(0), op(0), op(11, 40), op(23)), 2, 4);
            told("7 behind it", new Program(0).ops(op(13, 2), op(12, 0)), 2, 1);
            Program meets = new Program(0).ops(op(0), op(11, 3), op(1), op(23));
            told("8 behind it", meets, 2, 2);
            told("not its own rule 1", new Program(0).ops(above(7, 1)), 2, 7);
            told("not its own rule 3, with something taken", new Program(0).ops(op(17), op(0), op(8)), 2, 2);
            Program guarded = new Program(0).ops(op(1), op(23));
            told("before a guard's rule", guarded, 2, 2);
            told("not after a guard's rule", guarded.guard(0, 1, 39, 0), 2, 0);
        });
        s.sentence("3 how many LOCALS are wanted: one more than the last one that an ARGUMENT,", () -> {
            told("none", new Program(0).ops(op(0), op(23)), 3, 0);
            told("an int", new Program(0, 1).ops(op(23)), 3, 1);
            told("an int and a long", new Program(0, 1, 2).ops(op(23)), 3, 3);
            told("all", new Program(0, 2, 2, 2, 2).ops(op(23)), 3, 8);
            told("more than an op has", new Program(0, 1, 2).ops(op(2, 0), op(23)), 3, 3);
        });
        s.sentence("or an OP 2 to 7 at a place with a FRAME, has (a LONG both).", () -> {
            told("2", new Program(0).ops(op(2, 7)), 3, 8);
            told("3", new Program(0).ops(op(0), op(3, 6), op(23)), 3, 7);
            told("4", new Program(0).ops(op(4, 6)), 3, 8);
            told("5", new Program(0).ops(op(1), op(5, 0), op(23)), 3, 2);
            told("6", new Program(0).ops(op(6, 0)), 3, 1);
            told("7", new Program(0).ops(op(17), op(7, 4), op(23)), 3, 5);
            told("without a frame", new Program(0).ops(op(23), op(3, 7)), 3, 0);
            told("not gone through", new Program(0).ops(op(0), op(11, 3), op(24), op(3, 5)), 3, 6);
            told("8 and others", new Program(0).ops(op(0), op(0), op(8, 7), op(24, 7), op(13, 6), op(12, 6), op(23)), 3, 0);
            told("0 and 1", new Program(0).ops(op(0, 7), op(1, 7), op(23, 7)), 3, 0);
        });
        s.sentence("BAD;", () -> {
            Program p = new Program(0).ops(op(23));
            p.compute();
            for (int bad : new int[] {-1, 4, LEAST, GREATEST}) {
                check.due("told(0, " + bad + ")", p.x.told(0, bad), BAD);
            }
            for (int bad : new int[] {-1, 1, 6, LEAST, GREATEST}) {
                check.due("told(" + bad + ", 0)", p.x.told(bad, 0), BAD);
            }
        });
        s.sentence("NO: there is none, or it was undone.", () -> {
            Program p = new Program(0).ops(op(23));
            for (int what = 0; what < 4; what++) {
                check.due("none", p.x.told(0, what), NO);
                check.due("broken or right", p.compute(), 0);
                p.x.guard(0, 39, 40, 0, 0);
                check.due("undone", p.x.told(0, what), NO);
            }
            check.due("no ops", new Program(0).x.told(0, 1), NO);
        });
    }

    private static void tellFrame(Sentences s) {
        s.section("Promise 11: frame");
        s.sentence("Of the FRAME at a place as THE WORK left it: LOCAL k (0 .. 7),", () -> {
            Program p = new Program(0, 1, 2, 12, 5, 45, 14, 13).ops(op(6, 6), op(7, 7), op(23));
            p.compute();
            int[] want = {1, 2, 3, 12, 5, 45, 14, 13};
            for (int k = 0; k < 8; k++) {
                check.due("local " + k, p.x.frame(0, 0, k), want[k]);
            }
            Program loop = new Program(0, 13, 14).ops(op(6, 1), op(7, 0), op(12, 0));
            loop.compute();
            check.due("as the work left it", loop.x.frame(0, 0, 0), 12);
            Program broken = new Program(0, 13).ops(op(24), op(23));
            broken.compute();
            check.due("with a rule broken", broken.x.frame(0, 0, 0), 13);
        });
        s.sentence("or (8 .. 15) place k - 8 of the PILE;", () -> {
            Program p = new Program(0, 12).ops(op(17), op(1), op(6, 0), op(13, 2), op(0), op(1), op(23));
            p.compute();
            int[] want = {4, 2, 3, 12, 103, 1, 2, 3};
            for (int k = 0; k < 8; k++) {
                check.due("place " + k, p.x.frame(0, 6, 8 + k), want[k]);
            }
        });
        s.sentence("NONE: no FRAME, or not so many on the PILE.", () -> {
            Program p = new Program(0, 1).ops(op(0), op(24), op(23), op(23));
            p.compute();
            for (int k = 0; k < 16; k++) {
                check.due("no frame, " + k, p.x.frame(0, 3, k), NONE);
            }
            check.due("one on the pile", p.x.frame(0, 1, 8), 1);
            check.due("not two", p.x.frame(0, 1, 9), NONE);
            check.due("not eight", p.x.frame(0, 1, 15), NONE);
            check.due("none", p.x.frame(0, 2, 8), NONE);
            check.due("a local that is nothing", p.x.frame(0, 2, 7), 0);
        });
        s.sentence("BAD (a place without OP);", () -> {
            Program p = new Program(0).ops(op(0), op(23));
            p.compute();
            for (int bad : new int[] {-1, 2, 39, 40, LEAST, GREATEST}) {
                check.due("frame(0, " + bad + ", 0)", p.x.frame(0, bad, 0), BAD);
            }
            for (int bad : new int[] {-1, 16, LEAST, GREATEST}) {
                check.due("frame(0, 1, " + bad + ")", p.x.frame(0, 1, bad), BAD);
            }
            for (int bad : new int[] {-1, 1, 6, LEAST, GREATEST}) {
                check.due("frame(" + bad + ", 0, 0)", p.x.frame(bad, 0, 0), BAD);
            }
        });
        s.sentence("NO: no THE WORK, or undone.", () -> {
            Program p = new Program(0).ops(op(23));
            check.due("no work", p.x.frame(0, 0, 0), NO);
            p.compute();
            check.due("work", p.x.frame(0, 0, 0), 0);
            p.ops(op(23));
            check.due("undone", p.x.frame(0, 0, 0), NO);
            check.due("undone, the new place", p.x.frame(0, 1, 8), NO);
        });
    }

    private static void tellHeight(Sentences s) {
        s.section("Promise 12: height");
        s.sentence("How high the PILE is in it (in places);", () -> {
            Program p = new Program(0).ops(op(1), op(0), op(1), op(1), op(0), op(23));
            p.compute();
            int[] want = {0, 2, 3, 5, 7, 8};
            for (int place = 0; place < want.length; place++) {
                check.due("height at " + place, p.x.height(0, place), want[place]);
            }
        });
        s.sentence("NONE: no FRAME.", () -> {
            Program p = new Program(0).ops(op(12, 2), op(23), op(24), op(23));
            check.due("broken", p.compute(), 2);
            check.due("passed by", p.x.height(0, 1), NONE);
            check.due("where the rule is broken", p.x.height(0, 2), 0);
            check.due("behind it", p.x.height(0, 3), NONE);
        });
        s.sentence("BAD;", () -> {
            Program p = new Program(0).ops(op(0), op(23));
            p.compute();
            for (int bad : new int[] {-1, 2, 39, 40, LEAST, GREATEST}) {
                check.due("height(0, " + bad + ")", p.x.height(0, bad), BAD);
            }
            for (int bad : new int[] {-1, 1, 6, LEAST, GREATEST}) {
                check.due("height(" + bad + ", 0)", p.x.height(bad, 0), BAD);
            }
        });
        s.sentence("NO likewise.", () -> {
            Program p = new Program(0).ops(op(23));
            check.due("no work", p.x.height(0, 0), NO);
            p.compute();
            check.due("work", p.x.height(0, 0), 0);
            p.x.argument(0, 1);
            check.due("undone", p.x.height(0, 0), NO);
        });
    }

    private static void tellForm(Sentences s) {
        s.section("Promise 13: form");
        s.sentence("The FORM at a place;", () -> {
            jumped("0", 0, of(1));
            jumped("1", 1, of(1), op(17));
            form("2", losing(of(1, 1), 1), 4, 2);
            form("3", losing(of(1, 1), 1, 0), 6, 3);
            form("4", losing(of(1, 1, 1), 2, 1, 0), 8, 4);
            jumped("5", 5, of(1), op(17), op(7, 1));
            jumped("6", 6, of(1), op(17), op(7, 2));
            jumped("7", 7, of(1), op(17), op(7, 3));
            jumped("8", 8, of(1), op(17), op(7, 0));
        });
        s.sentence("NONE: it is not TOLD.", () -> {
            Program p = new Program(0).ops(op(0), op(11, 3), op(23), op(23), op(12, 0));
            form("the first", p, 0, NONE);
            form("behind a branch", p, 2, NONE);
            form("told", p, 3, 0);
            form("without a frame", p, 4, NONE);
            Program two = new Program(0).ops(op(0), op(11, 3), op(23), op(12, 0));
            form("told, the first place", two, 0, 0);
            form("told, the last place", two, 3, 0);
            two.x.method(0);
            for (int place = 0; place < 4; place++) {
                two.x.op(1, 23, 0, 0);
            }
            check.due("another method", two.x.compute(1), 0);
            check.due("its first place", two.x.form(1, 0), NONE);
            check.due("its last place", two.x.form(1, 3), NONE);
        });
        s.sentence("BAD (a place without OP);", () -> {
            Program p = new Program(0).ops(op(12, 1), op(23)).guard(0, 1, 39, 0);
            p.compute();
            Program right = new Program(0).ops(op(12, 1), op(23));
            right.compute();
            for (int bad : new int[] {-1, 2, 39, 40, LEAST, GREATEST}) {
                check.due("form(0, " + bad + "), a rule is broken", p.x.form(0, bad), BAD);
                check.due("form(0, " + bad + ")", right.x.form(0, bad), BAD);
            }
            for (int bad : new int[] {-1, 1, 6, LEAST, GREATEST}) {
                check.due("form(" + bad + ", 1)", right.x.form(bad, 1), BAD);
            }
        });
        s.sentence("NO: no THE WORK, undone, or a RULE was broken.", () -> {
            Program p = new Program(0).ops(op(12, 1), op(23), op(23));
            check.due("no work", p.x.form(0, 1), NO);
            check.due("no work, not told", p.x.form(0, 2), NO);
            form("work", p, 1, 0);
            p.x.argument(0, 1);
            check.due("undone", p.x.form(0, 1), NO);
            form("work again", p, 1, 0);
            p.ops(op(23));
            check.due("undone", p.x.form(0, 1), NO);
            p.guard(1, 2, 39, 0);
            check.due("broken", p.compute(), 6);
            check.due("a rule was broken", p.x.form(0, 1), NO);
            check.due("a rule was broken, not told", p.x.form(0, 2), NO);
        });
    }

    private static void tellCount(Sentences s) {
        s.section("Promise 14: count");
        s.sentence("0 CLASSES, 1 METHODS;", () -> {
            ChainFrames x = new ChainFrames();
            check.due("classes", x.count(0, 0), 2);
            check.due("methods", x.count(1, 0), 0);
            x.cls(0);
            x.cls(NONE);
            x.method(0);
            check.due("classes", x.count(0, 0), 4);
            check.due("methods", x.count(1, 0), 1);
            for (int k : new int[] {-1, 6, LEAST, GREATEST}) {
                check.due("classes, k " + k, x.count(0, k), 4);
                check.due("methods, k " + k, x.count(1, k), 1);
            }
        });
        s.sentence("2 OPS, 3 GUARDS of METHOD k.", () -> {
            ChainFrames x = new ChainFrames();
            for (int m = 0; m < 6; m++) {
                x.method(0);
            }
            for (int i = 0; i < 3; i++) {
                x.op(5, 0, 0, 0);
                x.op(0, 0, 0, 0);
            }
            x.op(0, 0, 0, 0);
            x.guard(5, 0, 1, 0, 0);
            x.guard(5, 0, 1, 0, 0);
            check.due("ops of 0", x.count(2, 0), 4);
            check.due("ops of 1", x.count(2, 1), 0);
            check.due("ops of 5", x.count(2, 5), 3);
            check.due("guards of 0", x.count(3, 0), 0);
            check.due("guards of 5", x.count(3, 5), 2);
        });
        s.sentence("BAD.", () -> {
            ChainFrames x = new ChainFrames();
            check.due("no method", x.count(2, 0), BAD);
            x.method(0);
            for (int bad : new int[] {-1, 1, 6, LEAST, GREATEST}) {
                check.due("count(2, " + bad + ")", x.count(2, bad), BAD);
                check.due("count(3, " + bad + ")", x.count(3, bad), BAD);
            }
            for (int bad : new int[] {-1, 4, LEAST, GREATEST}) {
                check.due("count(" + bad + ", 0)", x.count(bad, 0), BAD);
            }
        });
    }
}
