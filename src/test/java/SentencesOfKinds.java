/** The Terms, sentence by sentence: the answers, 1 CLASSES, 2 KINDS. */
final class SentencesOfKinds extends Asked {
    private SentencesOfKinds() {
    }

    static void tell(Sentences s) {
        s.section("Answers");
        s.sentence("Answers: BAD -2 (a number is not as told; no such thing), NO -3 (as told), FULL -4, the first that fits.",
            SentencesOfKinds::firstThatFits);
        s.sentence("What is refused changes nothing.", SentencesOfKinds::refusedChangesNothing);
        tellClasses(s);
        tellKinds(s);
    }

    private static void firstThatFits() {
        check.due("BAD", ChainFrames.BAD, -2);
        check.due("NO", ChainFrames.NO, -3);
        check.due("FULL", ChainFrames.FULL, -4);
        badBeforeFull();
        badBeforeNo();
    }

    private static void badBeforeFull() {
        ChainFrames x = fullOfClassesAndMethods();
        check.due("cls", x.cls(0), FULL);
        check.due("cls, no parent", x.cls(16), BAD);
        check.due("cls, a face", x.cls(2), BAD);
        check.due("method", x.method(0), FULL);
        check.due("method, no result", x.method(3), BAD);
        Program p = fullMethod();
        check.due("argument", p.x.argument(0, 1), FULL);
        check.due("argument, no kind", p.x.argument(0, 0), BAD);
        check.due("argument, no method", p.x.argument(1, 1), BAD);
        check.due("op", p.x.op(0, 2, 7, 0), FULL);
        check.due("op, no op", p.x.op(0, 26, 0, 0), BAD);
        check.due("op, no local", p.x.op(0, 2, 8, 0), BAD);
        check.due("op, no method", p.x.op(1, 0, 0, 0), BAD);
        check.due("guard", p.x.guard(0, 0, 40, 39, 0), FULL);
        check.due("guard, to 41", p.x.guard(0, 0, 41, 39, 0), BAD);
        check.due("guard, no class", p.x.guard(0, 0, 40, 39, 7), BAD);
        check.due("guard, no method", p.x.guard(1, 0, 40, 39, 0), BAD);
    }

    private static void badBeforeNo() {
        ChainFrames x = new ChainFrames();
        x.method(0);
        check.due("compute", x.compute(0), NO);
        check.due("compute, no method", x.compute(1), BAD);
        x.op(0, 23, 0, 0);
        check.due("told", x.told(0, 3), NO);
        check.due("told, what 4", x.told(0, 4), BAD);
        check.due("frame", x.frame(0, 0, 15), NO);
        check.due("frame, k 16", x.frame(0, 0, 16), BAD);
        check.due("frame, no place", x.frame(0, 1, 0), BAD);
        check.due("height", x.height(0, 0), NO);
        check.due("height, no place", x.height(0, 1), BAD);
        check.due("form", x.form(0, 0), NO);
        check.due("form, no place", x.form(0, 1), BAD);
    }

    /** 16 CLASSES, 2 being a FACE, the others below 0; 6 METHODS. */
    private static ChainFrames fullOfClassesAndMethods() {
        ChainFrames x = new ChainFrames();
        for (int c = 2; c < 16; c++) {
            check.due("cls " + c, x.cls(c == 2 ? NONE : 0), c);
        }
        for (int m = 0; m < 6; m++) {
            check.due("method " + m, x.method(0), m);
        }
        return x;
    }

    /** 8 LOCALS of ARGUMENTS, 40 OPS, 6 GUARDS; THE WORK goes through place 0 and 1. */
    private static Program fullMethod() {
        Program p = new Program(0, 1, 1, 1, 1, 1, 1, 1, 1).ops(op(12, 1));
        for (int place = 1; place < 40; place++) {
            p.ops(op(23));
        }
        for (int g = 0; g < 6; g++) {
            p.guard(2, 40, 39, 0);
        }
        return p;
    }

    private static void refusedChangesNothing() {
        refusedClassesAndMethods();
        refusedParts();
        refusedByAFullMethod();
        refusedWork();
    }

    private static void refusedClassesAndMethods() {
        ChainFrames x = new ChainFrames();
        check.due("a face", x.cls(NONE), 2);
        check.due("cls, no parent", x.cls(3), BAD);
        check.due("cls, a face", x.cls(2), BAD);
        check.due("classes", x.count(0, 0), 3);
        check.due("no class 3", x.fits(3, 3), BAD);
        check.due("the next class", x.cls(0), 3);
        check.due("method, no result", x.method(4), BAD);
        check.due("methods", x.count(1, 0), 0);
        check.due("the next method", x.method(0), 0);
        ChainFrames full = fullOfClassesAndMethods();
        check.due("cls", full.cls(0), FULL);
        check.due("classes", full.count(0, 0), 16);
        check.due("no class 16", full.fits(16, 0), BAD);
        check.due("method", full.method(0), FULL);
        check.due("methods", full.count(1, 0), 6);
        check.due("no method 6", full.compute(6), BAD);
    }

    /** Each refused part leaves THE WORK as it was, and what THE WORK finds the next time. */
    private static void refusedParts() {
        Program p = new Program(0, 1, 2).ops(op(12, 1), op(23));
        p.compute();
        check.due("argument", p.x.argument(0, 0), BAD);
        check.due("work after argument", p.x.told(0, 1), 2);
        check.due("op", p.x.op(0, 4, 7, 0), BAD);
        check.due("work after op", p.x.told(0, 1), 2);
        check.due("guard", p.x.guard(0, 0, 2, 40, 0), BAD);
        check.due("work after guard", p.x.told(0, 1), 2);
        check.due("ops", p.x.count(2, 0), 2);
        check.due("guards", p.x.count(3, 0), 0);
        ends("the same work again", p, 0, NONE, 2);
        check.due("the same locals", p.locals(1), "1 2 3");
        check.due("the next argument", p.x.argument(0, 1), 4);
        check.due("the next op", p.x.op(0, 23, 0, 0), 2);
        check.due("the next guard", p.x.guard(0, 0, 1, 2, 0), 0);
    }

    private static void refusedByAFullMethod() {
        Program p = fullMethod();
        p.compute();
        check.due("argument", p.x.argument(0, 1), FULL);
        check.due("work after argument", p.x.told(0, 1), 2);
        check.due("op", p.x.op(0, 0, 0, 0), FULL);
        check.due("work after op", p.x.told(0, 1), 2);
        check.due("guard", p.x.guard(0, 0, 40, 39, 0), FULL);
        check.due("work after guard", p.x.told(0, 1), 2);
        check.due("ops", p.x.count(2, 0), 40);
        check.due("guards", p.x.count(3, 0), 6);
        ends("the same work again", p, 0, NONE, 2);
        check.due("the same locals", p.locals(0), "1 1 1 1 1 1 1 1");
        Program seven = new Program(0, 2, 2, 2, 1).ops(op(23));
        check.due("a long into the last local", seven.x.argument(0, 2), FULL);
        seven.compute();
        check.due("the last local", seven.locals(0), "2 3 2 3 2 3 1");
        check.due("an int into it", seven.x.argument(0, 1), 8);
    }

    private static void refusedWork() {
        Program p = new Program(0).ops(op(23));
        p.compute();
        check.due("another method", p.x.method(0), 1);
        check.due("compute without ops", p.x.compute(1), NO);
        check.due("no work on it", p.x.told(1, 0), NO);
        check.due("compute, no method", p.x.compute(2), BAD);
        check.due("the work of the first", p.x.told(0, 1), 1);
    }

    private static void tellClasses(Sentences s) {
        s.section("1");
        s.sentence("1 CLASSES are numbered as they come;", SentencesOfKinds::classesAreNumbered);
        s.sentence("0 (ROOT) and 1 (below 0) are there.", () -> {
            ChainFrames x = new ChainFrames();
            check.due("classes", x.count(0, 0), 2);
            fits(x, 1, 0, 1);
            fits(x, 0, 1, 0);
            fits(x, 2, 0, BAD);
        });
        s.sentence("Another one is below a CLASS that is no FACE, or is a FACE.", SentencesOfKinds::belowNoFace);
        s.sentence("c FITS d, if d is a FACE;", () -> {
            ChainFrames x = family();
            for (int c = 0; c < 9; c++) {
                fits(x, c, 6, 1);
                fits(x, c, 7, 1);
            }
        });
        s.sentence("or c is d, or below it (and on);", SentencesOfKinds::isOrBelow);
        s.sentence("a FACE FITS 0, too.", () -> {
            ChainFrames x = family();
            fits(x, 6, 0, 1);
            fits(x, 7, 0, 1);
            fits(x, 6, 1, 0);
            fits(x, 6, 2, 0);
            fits(x, 7, 8, 0);
        });
        s.sentence("The JOIN of two CLASSES: if they are alike it;", () -> {
            ChainFrames x = family();
            for (int c = 0; c < 9; c++) {
                joins(x, 10 + c, 10 + c, 10 + c);
            }
        });
        s.sentence("else 0, if one is a FACE;", () -> {
            ChainFrames x = family();
            for (int c : new int[] {0, 1, 2, 5, 8, 7}) {
                joins(x, 16, 10 + c, 10);
            }
        });
        s.sentence("else the nearest one that both are, or are below.", SentencesOfKinds::nearest);
    }

    private static void classesAreNumbered() {
        ChainFrames x = new ChainFrames();
        check.due("the first", x.cls(0), 2);
        check.due("a face", x.cls(NONE), 3);
        check.due("refused", x.cls(3), BAD);
        check.due("the next", x.cls(2), 4);
        check.due("a face", x.cls(NONE), 5);
        fits(x, 4, 2, 1);
        fits(x, 5, 4, 0);
    }

    private static void belowNoFace() {
        ChainFrames x = new ChainFrames();
        check.due("below 0", x.cls(0), 2);
        check.due("below 1", x.cls(1), 3);
        check.due("below 3", x.cls(3), 4);
        check.due("a face", x.cls(NONE), 5);
        check.due("below a face", x.cls(5), BAD);
        fits(x, 4, 1, 1);
        fits(x, 4, 2, 0);
        fits(x, 2, 4, 0);
        fits(x, 2, 5, 1);
    }

    private static void isOrBelow() {
        ChainFrames x = family();
        int[][] right = {{0, 0}, {1, 1}, {5, 5}, {6, 6}, {5, 3}, {5, 2}, {5, 0}, {4, 2}, {8, 1}, {8, 0}};
        int[][] wrong = {{3, 5}, {2, 5}, {0, 5}, {3, 4}, {4, 3}, {5, 4}, {5, 1}, {8, 2}, {0, 1}};
        for (int[] pair : right) {
            fits(x, pair[0], pair[1], 1);
        }
        for (int[] pair : wrong) {
            fits(x, pair[0], pair[1], 0);
        }
        ChainFrames deep = new ChainFrames();
        for (int c = 2; c < 16; c++) {
            deep.cls(c - 1);
        }
        for (int c = 0; c < 16; c++) {
            fits(deep, 15, c, 1);
            fits(deep, c, 15, c == 15 ? 1 : 0);
        }
    }

    private static void nearest() {
        ChainFrames x = family();
        int[][] rows = {{5, 4, 2}, {3, 4, 2}, {5, 3, 3}, {5, 2, 2}, {2, 0, 0}, {5, 8, 0}, {8, 1, 1}, {2, 1, 0}, {0, 1, 0}};
        for (int[] row : rows) {
            joins(x, 10 + row[0], 10 + row[1], 10 + row[2]);
        }
        ChainFrames deep = new ChainFrames();
        for (int c = 2; c < 15; c++) {
            deep.cls(c - 1);
        }
        check.due("the last below 13", deep.cls(13), 15);
        joins(deep, 25, 24, 23);
        joins(deep, 25, 12, 12);
    }

    /** 2 below 0, 3 below 2, 4 below 2, 5 below 3, 6 a FACE, 7 a FACE, 8 below 1. */
    private static ChainFrames family() {
        ChainFrames x = new ChainFrames();
        int[] parents = {0, 2, 2, 3, NONE, NONE, 1};
        for (int i = 0; i < parents.length; i++) {
            check.due("cls of the family", x.cls(parents[i]), i + 2);
        }
        return x;
    }

    private static void fits(ChainFrames x, int c, int d, int want) {
        check.due("fits(" + c + ", " + d + ")", x.fits(c, d), want);
    }

    private static void joins(ChainFrames x, int k, int l, int want) {
        check.due("join(" + k + ", " + l + ")", x.join(k, l), want);
        check.due("join(" + l + ", " + k + ")", x.join(l, k), want);
    }

    private static void tellKinds(Sentences s) {
        s.section("2");
        s.sentence("2 KINDS of values: 0 NOTHING, 1 INT, 2 LONG and 3 its second half, 4 NULL, 5 a ROW of INTS, "
            + "10 + c a THING of CLASS c, 40 + c a ROW of THINGS of c, 100 + p UNMADE: what the NEW at place p laid.", () -> {
                leaves("0 1 | 2 3 4 5 15", of(), op(0), op(3, 1), op(1), op(17), op(0), op(19, NONE), op(17), op(18, 5));
                leaves(" | 45 102", of(), op(0), op(19, 5), op(13, 2));
            });
        s.sentence("REFERENCES are 4, 5, 10 and above to 99.", SentencesOfKinds::references);
        s.sentence("k FITS l: they are alike;", () -> {
            for (int k : new int[] {1, 2, 5, 10, 12, 15, 40, 42, 45}) {
                kindFits(k, k, 1);
            }
        });
        s.sentence("k is 4 and l a REFERENCE;", () -> {
            for (int l : new int[] {5, 10, 12, 15, 40, 42, 45}) {
                kindFits(4, l, 1);
                kindFits(l, 1, 0);
            }
            kindFits(4, 1, 0);
        });
        s.sentence("both are 10 + c, 10 + d, and c FITS d;", () -> classesFit(10));
        s.sentence("both 40 + c, 40 + d, likewise;", () -> classesFit(40));
        s.sentence("k is a ROW (5, 40 + c), and l is 10.", () -> {
            for (int row : new int[] {5, 40, 42, 45}) {
                kindFits(row, 10, 1);
                kindFits(row, 11, 0);
                kindFits(row, 12, 0);
                kindFits(row, 15, 0);
                kindFits(10, row, 0);
            }
            kindFits(5, 40, 0);
            kindFits(5, 45, 0);
            kindFits(40, 5, 0);
        });
        tellJoins(s);
    }

    private static void tellJoins(Sentences s) {
        s.sentence("The JOIN of KINDS: alike ones it;", () -> {
            ChainFrames x = family();
            for (int k : new int[] {0, 1, 2, 3, 4, 5, 10, 16, 18, 40, 46, 48, 100, 139}) {
                joins(x, k, k, k);
            }
        });
        s.sentence("4 and a REFERENCE: that;", () -> {
            ChainFrames x = family();
            for (int l : new int[] {5, 10, 11, 16, 18, 40, 46, 48}) {
                joins(x, 4, l, l);
            }
        });
        s.sentence("10 + c and 10 + d: 10 and the JOIN of c and d;", () -> classesJoin(10));
        s.sentence("40 + c and 40 + d: 40 and that JOIN;", () -> classesJoin(40));
        s.sentence("other two REFERENCES: 10;", () -> {
            ChainFrames x = family();
            for (int c = 0; c < 9; c++) {
                joins(x, 5, 10 + c, 10);
                joins(x, 5, 40 + c, 10);
                joins(x, 43, 10 + c, 10);
            }
        });
        s.sentence("else 0.", () -> {
            ChainFrames x = family();
            int[] none = {0, 1, 2, 3, 100, 139};
            for (int k : none) {
                for (int l : new int[] {4, 5, 10, 16, 40, 46}) {
                    joins(x, k, l, 0);
                }
                for (int l : none) {
                    joins(x, k, l, k == l ? k : 0);
                }
            }
        });
    }

    /** OP 18 takes REFERENCES alone. */
    private static void references() {
        leaves(" | 12", of(), op(17), op(18, 2));
        for (int k : new int[] {5, 10, 11, 16, 40, 46}) {
            leaves(k + " | 12", of(k), op(6, 0), op(18, 2));
        }
        breaks(3, of(), op(0), op(18, 2));
        breaks(3, of(), op(1), op(18, 2));
        breaks(3, of(), op(13, 2), op(18, 2));
        ChainFrames x = new ChainFrames();
        for (int c = 2; c < 16; c++) {
            x.cls(0);
        }
        x.method(0);
        x.argument(0, 25);
        x.argument(0, 55);
        int[][] ops = {{6, 0}, {18, 2}, {6, 1}, {18, 2}, {23, 0}};
        for (int[] o : ops) {
            x.op(0, o[0], o[1], 0);
        }
        check.due("things and rows of the last class", x.compute(0), 0);
        check.due("what they are now", x.frame(0, 4, 9), 12);
    }

    /** Whether a METHOD with RESULT l may return k: it is RULE 3, if k does not FIT l. */
    private static void kindFits(int k, int l, int want) {
        Program p = k == 4 ? new Program(l).ops(op(17)) : new Program(l, k).ops(op(k == 1 ? 2 : k == 2 ? 4 : 6, 0));
        check.due(k + " FITS " + l, p.ops(op(23)).compute(), want == 1 ? 0 : 3);
    }

    /** first: 10 for THINGS, 40 for ROWS of them; the CLASSES are those of Program. */
    private static void classesFit(int first) {
        int[][] right = {{3, 2}, {3, 0}, {2, 5}, {0, 5}, {5, 0}, {6, 1}};
        int[][] wrong = {{2, 3}, {0, 2}, {3, 4}, {5, 2}, {5, 1}, {1, 6}};
        for (int[] pair : right) {
            kindFits(first + pair[0], first + pair[1], 1);
        }
        for (int[] pair : wrong) {
            kindFits(first + pair[0], first + pair[1], 0);
        }
    }

    private static void classesJoin(int first) {
        ChainFrames x = family();
        int[][] rows = {{5, 4, 2}, {5, 3, 3}, {5, 8, 0}, {8, 1, 1}, {6, 5, 0}, {6, 7, 0}, {6, 0, 0}, {2, 1, 0}};
        for (int[] row : rows) {
            joins(x, first + row[0], first + row[1], first + row[2]);
        }
    }
}
