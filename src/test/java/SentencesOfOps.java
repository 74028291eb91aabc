/** The Terms, sentence by sentence: 3 METHODS, OPS and RULES. */
final class SentencesOfOps extends Asked {
    private SentencesOfOps() {
    }

    static void tell(Sentences s) {
        s.section("3");
        tellMethods(s);
        tellOrderOfRules(s);
        tellLocals(s);
        tellNumbersAndJumps(s);
        tellThings(s);
        tellRowsAndEnds(s);
        tellRules(s);
    }

    private static void tellMethods(Sentences s) {
        s.sentence("3 A METHOD has ARGUMENTS (KINDS 1, 2, 5, 10 to 99 of CLASSES there),", () -> {
            ChainFrames x = new ChainFrames();
            x.method(0);
            for (int bad : new int[] {-1, 0, 3, 4, 6, 9, 12, 39, 42, 99, 100}) {
                check.due("argument(0, " + bad + ")", x.argument(0, bad), BAD);
            }
            int locals = 0;
            for (int kind : new int[] {1, 2, 5, 10, 11, 40, 41}) {
                locals += kind == 2 ? 2 : 1;
                check.due("argument(0, " + kind + ")", x.argument(0, kind), locals);
            }
        });
        s.sentence("a RESULT (one of these, or 0: none),", () -> {
            ChainFrames x = new ChainFrames();
            for (int bad : new int[] {-1, 3, 4, 6, 9, 12, 39, 42, 99, 100}) {
                check.due("method(" + bad + ")", x.method(bad), BAD);
            }
            int number = 0;
            for (int result : new int[] {0, 1, 2, 5, 11, 41}) {
                check.due("method(" + result + ")", x.method(result), number++);
            }
        });
        s.sentence("OPS at places 0, 1, ..,", () -> {
            Program p = new Program(0).ops(op(0), op(1), op(23));
            check.due("the next place", p.x.op(p.m, 23, 0, 0), 3);
            p.compute();
            check.due("behind 0", p.pile(1), "1");
            check.due("behind 1", p.pile(2), "1 2 3");
        });
        s.sentence("and GUARDS in the order in which they were told.", () -> {
            Program p = new Program(0).ops(op(0), op(23)).guard(1, 2, 1, 0).guard(1, 2, 39, 1);
            ends("a join that is 0 first", p, 8, 1, 2);
            Program q = new Program(0).ops(op(0), op(23)).guard(1, 2, 39, 1).guard(1, 2, 1, 0);
            ends("a place that is not there first", q, 6, 1, 2);
        });
        s.sentence("There are 8 LOCALS, and a PILE of 8 places;", () -> {
            leaves("0 0 0 0 0 0 0 1 | ", of(), op(0), op(3, 7));
            leaves("1 1 1 1 1 1 1 1 | 1 1 1 1 1 1 1 1", of(1, 1, 1, 1, 1, 1, 1, 1), above(7, 0));
            check.due("local 8", new Program(0).x.op(0, 3, 8, 0), BAD);
            breaks(1, of(), above(8, 0));
        });
        s.sentence("a LONG takes two of them (2, and 3 behind it).", () -> {
            leaves("2 3 | 2 3", of(2), op(4, 0));
            leaves(" | 2 3 2 3 2 3 2 3", of(), op(1), op(1), op(1), op(1));
            check.due("locals of two longs", new Program(0, 2).x.argument(0, 2), 4);
        });
        s.sentence("At place 0 ARGUMENTS lie in LOCALS, from 0 on, the others are 0;", () -> {
            Program p = new Program(0, 12, 2, 45).ops(op(23));
            p.compute();
            int[] want = {12, 2, 3, 45, 0, 0, 0, 0};
            for (int k = 0; k < 8; k++) {
                check.due("local " + k, p.x.frame(0, 0, k), want[k]);
            }
        });
        s.sentence("the PILE is empty.", () -> {
            Program p = new Program(0, 12, 2, 45).ops(op(23));
            p.compute();
            check.due("height", p.x.height(0, 0), 0);
            check.due("place 0 of the pile", p.x.frame(0, 0, 8), NONE);
        });
    }

    private static void tellOrderOfRules(Sentences s) {
        s.sentence("OPS (a, b: their numbers).", () -> {
            leaves("12 | 1", of(12), op(6, 0), op(16, 2, 1));
            leaves("11 | 12", of(11), op(6, 0), op(16, 1, 12));
            leaves("0 0 1 | ", of(), op(0), op(3, 2, 5));
        });
        s.sentence("What an OP takes is told from the top down, one after the other:", () -> {
            breaks(3, of(), op(17), op(8));
            breaks(2, of(), op(0), op(8));
            breaks(3, of(), op(17), op(20));
            breaks(3, of(), op(0), op(17), op(20));
            breaks(3, of(), op(1), op(21));
            breaks(3, of(), op(17), op(17), op(21));
            breaks(2, of(), op(0), op(0), op(21));
            breaks(3, of(5), op(0), op(0), op(6, 0), op(21));
            breaks(3, of(), op(1), op(0), op(9));
        });
        s.sentence("RULE 2, if the PILE has too few places for it (a LONG takes two),", SentencesOfOps::tooFew);
        s.sentence("then RULE 3, if what lies there does not FIT the KIND told (of a LONG 3 above 2).", SentencesOfOps::doesNotFit);
        s.sentence("Then (2, 4, 6) comes RULE 4,", () -> {
            breaks(4, of(12), above(8, 2, 0));
            breaks(4, of(12), above(7, 4, 0));
            breaks(4, of(1), above(8, 6, 0));
        });
        s.sentence("then, as something is laid, RULE 1.", () -> {
            breaks(3, of(), above(8, 16, 0, 2));
            breaks(1, of(12), op(0), op(0), op(0), op(0), op(0), op(0), op(0), op(6, 0), op(16, 2, 2));
            leaves("12 | 1 1 1 1 1 1 1 1", of(12), op(0), op(0), op(0), op(0), op(0), op(0), op(0), op(6, 0), op(16, 2, 1));
            leaves(" | 1 1 1 1 1 1 1", of(), above(8, 8));
            leaves(" | 1 1 1 1 1 1 1 42", of(), above(8, 19, 2));
            breaks(1, of(), above(8, 10));
            leaves(" | 1 1 1 1 1 1 2 3", of(), above(7, 10));
        });
    }

    private static void tooFew() {
        for (int takesOne : new int[] {3, 7, 8, 10, 11, 14, 15, 16, 18, 19, 20, 21, 22, 24}) {
            breaks(2, of(), op(takesOne));
        }
        for (int takesTwo : new int[] {5, 8, 9, 20, 21, 25}) {
            breaks(2, of(), op(takesTwo));
            breaks(2, of(), op(0), op(takesTwo));
        }
        breaks(2, of(), op(1), op(9));
        breaks(2, of(), op(0), op(1), op(9));
        breaks(2, of(), op(0), op(0), op(21));
        breaksWithResult(1, 2, of(), op(23));
        breaksWithResult(12, 2, of(), op(23));
        breaksWithResult(2, 2, of(), op(0), op(23));
    }

    private static void doesNotFit() {
        for (int takesAnInt : new int[] {3, 8, 10, 11, 19, 20}) {
            breaks(3, of(), op(17), op(takesAnInt));
            breaks(3, of(), op(1), op(takesAnInt));
            breaks(3, of(), op(13, 2), op(takesAnInt));
        }
        for (int takesALong : new int[] {5, 9, 25}) {
            breaks(3, of(), op(0), op(0), op(takesALong));
            breaks(3, of(), op(1), op(0), op(takesALong));
        }
        breaks(3, of(), op(0), op(0), op(1), op(9));
        breaks(3, of(), op(17), op(0), op(8));
        breaks(3, of(), op(0), op(16, 0));
        breaks(3, of(10), op(6, 0), op(22));
        breaksWithResult(1, 3, of(), op(17), op(23));
        breaksWithResult(2, 3, of(), op(0), op(0), op(23));
        breaksWithResult(12, 3, of(10), op(6, 0), op(23));
    }

    private static void tellLocals(Sentences s) {
        s.sentence("0 lays 1.", () -> leaves(" | 1", of(), op(0)));
        s.sentence("1 lays 2.", () -> leaves(" | 2 3", of(), op(1)));
        s.sentence("2 lays LOCAL a, an INT;", () -> {
            leaves("1 | 1", of(1), op(2, 0));
            leaves("12 12 12 12 12 12 12 1 | 1", of(12, 12, 12, 12, 12, 12, 12, 1), op(2, 7));
        });
        s.sentence("3 takes 1 into LOCAL a.", () -> {
            leaves("1 | ", of(), op(0), op(3, 0));
            leaves("0 0 0 0 0 0 0 1 | 1", of(), op(0), op(0), op(3, 7));
            leaves("12 1 | ", of(12, 12), op(0), op(3, 1));
        });
        s.sentence("4 lays LOCALS a and a + 1, a LONG;", () -> {
            leaves("2 3 | 2 3", of(2), op(4, 0));
            leaves("1 1 1 1 1 1 2 3 | 2 3", of(1, 1, 1, 1, 1, 1, 2), op(4, 6));
            leaves("1 2 3 1 | 2 3", of(1, 2, 1), op(4, 1));
        });
        s.sentence("5 takes 2 into them.", () -> {
            leaves("2 3 | ", of(), op(1), op(5, 0));
            leaves("0 0 0 0 0 0 2 3 | 1", of(), op(0), op(1), op(5, 6));
        });
        s.sentence("6 lays LOCAL a, a REFERENCE or UNMADE;", () -> {
            for (int kind : new int[] {5, 10, 15, 40, 45}) {
                leaves(kind + " | " + kind, of(kind), op(6, 0));
            }
            leaves("0 0 0 0 0 0 0 4 | 4", of(), op(17), op(7, 7), op(6, 7));
            leaves("100 | 100", of(), op(13, 2), op(7, 0), op(6, 0));
        });
        s.sentence("7 takes such a one into LOCAL a.", () -> {
            leaves("4 | ", of(), op(17), op(7, 0));
            leaves("0 0 0 0 0 0 0 100 | 1", of(), op(13, 2), op(7, 7), op(0));
            leaves("5 5 | ", of(5), op(6, 0), op(7, 1));
            leaves("45 45 | ", of(45), op(6, 0), op(7, 1));
            breaks(3, of(), op(0), op(7, 0));
            breaks(3, of(), op(1), op(7, 0));
        });
        s.sentence("(Of 2, 4, 6: another KIND lies in the LOCAL: RULE 4.)", SentencesOfOps::anotherKindInLocal);
        s.sentence("What is put into a LOCAL that was one half of a LONG leaves 0 in its other half.", SentencesOfOps::otherHalf);
    }

    private static void anotherKindInLocal() {
        breaks(4, of(), op(2, 0));
        breaks(4, of(2), op(2, 0));
        breaks(4, of(2), op(2, 1));
        breaks(4, of(12), op(2, 0));
        breaks(4, of(), op(17), op(7, 0), op(2, 0));
        breaks(4, of(), op(4, 0));
        breaks(4, of(1, 1), op(4, 0));
        breaks(4, of(1, 2), op(4, 0));
        breaks(4, of(1, 2), op(4, 2));
        breaks(4, of(2, 2), op(4, 1));
        breaks(4, of(2), op(0), op(3, 1), op(4, 0));
        breaks(4, of(), op(6, 0));
        breaks(4, of(1), op(6, 0));
        breaks(4, of(2), op(6, 0));
        breaks(4, of(2), op(6, 1));
    }

    private static void otherHalf() {
        leaves("1 | ", of(2), op(0), op(3, 0));
        leaves("0 1 | ", of(2), op(0), op(3, 1));
        leaves("4 | ", of(2), op(17), op(7, 0));
        leaves("0 4 | ", of(2), op(17), op(7, 1));
        leaves("0 2 3 | ", of(2, 2), op(1), op(5, 1));
        leaves("2 3 | ", of(1, 2), op(1), op(5, 0));
        leaves("0 2 3 | ", of(2), op(1), op(5, 1));
        leaves("2 3 | ", of(2), op(1), op(5, 0));
        leaves("2 3 1 | ", of(2, 2), op(0), op(3, 2));
        leaves("0 0 0 0 0 0 0 1 | ", of(), op(1), op(5, 6), op(0), op(3, 7));
        leaves("2 3 2 3 0 2 3 | ", of(2, 2, 2, 2), op(1), op(5, 5));
    }

    private static void tellNumbersAndJumps(Sentences s) {
        s.sentence("8 takes 1, 1, lays 1.", () -> leaves(" | 4 1", of(), op(17), op(0), op(0), op(8)));
        s.sentence("9 takes 2, 2, lays 2.", () -> leaves(" | 4 2 3", of(), op(17), op(1), op(1), op(9)));
        s.sentence("10 takes 1, lays 2.", () -> leaves(" | 4 2 3", of(), op(17), op(0), op(10)));
        s.sentence("11 takes 1, and goes on, or to place a.", () -> {
            Program p = new Program(0, 1).ops(op(17), op(2, 0), op(11, 4), op(23), op(23), op(23));
            ends("a branch", p, 0, NONE, 5);
            check.due("goes on", p.pile(3), "4");
            check.due("goes to a", p.pile(4), "4");
            ends("to itself", new Program(0).ops(op(0), op(0), op(11, 2), op(23)), 8, 2, 3);
        });
        s.sentence("12 goes to place a.", () -> {
            Program p = new Program(0).ops(op(17), op(12, 3), op(23), op(23));
            ends("a jump", p, 0, NONE, 3);
            check.due("goes to a", p.pile(3), "4");
            check.due("does not go on", p.x.height(0, 2), NONE);
        });
    }

    private static void tellThings(Sentences s) {
        s.sentence("13 lays 100 and its own place (a: its CLASS).", () -> {
            leaves(" | 100", of(), op(13, 2));
            leaves(" | 1 101 102", of(), op(0), op(13, 2), op(13, 2));
            int[][] last = new int[39][];
            java.util.Arrays.fill(last, op(12, 38));
            last[38] = op(13, 5);
            leaves(" | 138", of(), last);
        });
        s.sentence("14 lays the top once more (RULE 2 of none; of a 3 RULE 3).", () -> {
            leaves(" | 4 1 1", of(), op(17), op(0), op(14));
            leaves("45 | 45 45", of(45), op(6, 0), op(14));
            leaves(" | 100 100", of(), op(13, 2), op(14));
            leaves(" | 1 1 1 1 1 1 1 1", of(), above(7, 14));
            breaks(2, of(), op(14));
            breaks(3, of(), op(1), op(14));
            breaks(3, of(), op(1), op(1), op(1), op(1), op(14));
            breaks(1, of(), above(8, 14));
        });
        s.sentence("15 takes an UNMADE whose NEW has CLASS a (else RULE 3):", () -> {
            leaves(" | ", of(), op(13, 2), op(15, 2));
            leaves(" | 100", of(), op(13, 2), op(13, 3), op(15, 3));
            breaks(3, of(), op(13, 2), op(15, 3));
            breaks(3, of(), op(13, 3), op(15, 2));
            breaks(3, of(), op(13, 2), op(13, 3), op(15, 2));
            breaks(3, of(), op(0), op(15, 0));
            breaks(3, of(), op(17), op(15, 2));
            breaks(3, of(12), op(6, 0), op(15, 2));
            breaks(2, of(), op(15, 2));
        });
        s.sentence("all of that KIND, in LOCALS and on the PILE, become 10 + a.", () -> {
            leaves("12 0 0 0 0 0 0 12 | 12 12", of(), op(13, 2), op(14), op(7, 0), op(14), op(7, 7), op(14), op(14), op(15, 2));
            leaves("100 12 | 100 12", of(), op(13, 2), op(14), op(7, 0), op(13, 2), op(14), op(7, 1), op(14), op(15, 2));
            leaves(" | 15", of(), op(13, 5), op(14), op(15, 5));
        });
        s.sentence("16 takes 10 + a, and lays the KIND b (0: nothing).", () -> {
            leaves("13 | 4", of(13), op(17), op(6, 0), op(16, 2, 0));
            leaves("13 | 4 1", of(13), op(17), op(6, 0), op(16, 2, 1));
            leaves("13 | 2 3", of(13), op(6, 0), op(16, 3, 2));
            leaves("42 | 5", of(42), op(6, 0), op(16, 0, 5));
            leaves(" | 45", of(), op(17), op(16, 3, 45));
            breaks(3, of(12), op(6, 0), op(16, 3, 0));
            breaks(3, of(42), op(6, 0), op(16, 2, 0));
            breaks(3, of(), op(13, 2), op(16, 2, 0));
        });
        s.sentence("17 lays 4.", () -> leaves(" | 4", of(), op(17)));
        s.sentence("18 takes a REFERENCE, lays 10 + a.", () -> {
            leaves(" | 1 15", of(), op(0), op(17), op(18, 5));
            leaves("5 | 10", of(5), op(6, 0), op(18, 0));
            leaves("14 | 13", of(14), op(6, 0), op(18, 3));
            leaves("45 | 13", of(45), op(6, 0), op(18, 3));
            breaks(3, of(), op(0), op(18, 0));
            breaks(3, of(), op(13, 2), op(18, 2));
        });
    }

    private static void tellRowsAndEnds(Sentences s) {
        s.sentence("19 takes 1, lays 40 + a (a NONE: 5).", () -> {
            leaves(" | 4 40", of(), op(17), op(0), op(19, 0));
            leaves(" | 45", of(), op(0), op(19, 5));
            leaves(" | 4 5", of(), op(17), op(0), op(19, NONE));
        });
        s.sentence("20 takes 1, then a ROW:", () -> {
            leaves("5 | 1 1", of(5), op(0), op(6, 0), op(0), op(20));
            breaks(3, of(5), op(6, 0), op(6, 0), op(20));
            breaks(3, of(), op(0), op(0), op(20));
            breaks(3, of(), op(1), op(0), op(20));
            breaks(3, of(10), op(6, 0), op(0), op(20));
            breaks(3, of(), op(13, 2), op(0), op(20));
        });
        s.sentence("of 5 it lays 1, of 40 + c 10 + c, of 4 it lays 4.", () -> {
            leaves("5 | 1", of(5), op(6, 0), op(0), op(20));
            leaves("40 | 10", of(40), op(6, 0), op(0), op(20));
            leaves("45 | 15", of(45), op(6, 0), op(0), op(20));
            leaves(" | 4", of(), op(17), op(0), op(20));
        });
        s.sentence("21 takes 1 or a REFERENCE (else RULE 3), then 1, then a ROW:", () -> {
            leaves("5 | 1", of(5), op(0), op(6, 0), op(0), op(0), op(21));
            leaves("42 5 | ", of(42, 5), op(6, 0), op(0), op(6, 1), op(21));
            breaks(3, of(), op(1), op(21));
            breaks(3, of(), op(13, 2), op(21));
            breaks(3, of(42), op(6, 0), op(0), op(13, 2), op(21));
            breaks(3, of(), op(17), op(0), op(13, 2), op(21));
            breaks(3, of(5), op(6, 0), op(17), op(0), op(21));
            breaks(3, of(10), op(6, 0), op(0), op(17), op(21));
            breaks(3, of(10), op(6, 0), op(0), op(0), op(21));
            breaks(3, of(), op(13, 2), op(0), op(17), op(21));
            breaks(3, of(), op(0), op(0), op(0), op(21));
        });
        s.sentence("5 or 4 where it was an INT,", () -> {
            leaves("5 | ", of(5), op(6, 0), op(0), op(0), op(21));
            leaves(" | ", of(), op(17), op(0), op(0), op(21));
            breaks(3, of(40), op(6, 0), op(0), op(0), op(21));
        });
        s.sentence("40 + c (whatever c is) or 4 where it was a REFERENCE.", () -> {
            leaves("43 16 | ", of(43, 16), op(6, 0), op(0), op(6, 1), op(21));
            leaves("45 42 | ", of(45, 42), op(6, 0), op(0), op(6, 1), op(21));
            leaves("40 | ", of(40), op(6, 0), op(0), op(17), op(21));
            leaves(" | ", of(), op(17), op(0), op(17), op(21));
            breaks(3, of(5), op(6, 0), op(0), op(17), op(21));
        });
        s.sentence("22 takes 11, and does not go on.", () -> {
            leavesMethod(0, of(11), op(6, 0), op(22));
            leavesMethod(2, of(16), op(6, 0), op(22));
            leavesMethod(0, of(), op(17), op(22));
            breaks(3, of(10), op(6, 0), op(22));
            breaks(3, of(15), op(6, 0), op(22));
            Program p = new Program(0).ops(op(17), op(22), op(23));
            p.compute();
            check.due("behind it", p.x.height(0, 2), NONE);
        });
        s.sentence("23 takes the RESULT (nothing for 0), and does not go on.", () -> {
            leavesMethod(0, of(), op(23));
            leavesMethod(0, of(), op(1), op(23));
            leavesMethod(1, of(), op(17), op(0), op(23));
            leavesMethod(2, of(), op(1), op(23));
            leavesMethod(12, of(13), op(6, 0), op(23));
            breaksWithResult(1, 2, of(), op(23));
            breaksWithResult(13, 3, of(12), op(6, 0), op(23));
            Program p = new Program(0).ops(op(23), op(23));
            p.compute();
            check.due("behind it", p.x.height(0, 1), NONE);
        });
        s.sentence("24 takes one that is no 3 (else RULE 3).", () -> {
            leaves(" | 4", of(), op(17), op(0), op(24));
            leaves(" | ", of(), op(17), op(24));
            leaves(" | ", of(), op(13, 2), op(24));
            breaks(3, of(), op(1), op(24));
        });
        s.sentence("25 takes 2.", () -> {
            leaves(" | 1", of(), op(0), op(1), op(25));
            breaks(3, of(), op(0), op(0), op(25));
        });
    }

    private static void tellRules(Sentences s) {
        s.sentence("RULES: 1 the PILE is to have more than 8 places;", () -> {
            for (int[] last : new int[][] {{0}, {1}, {2, 0}, {4, 1}, {6, 3}, {10}, {13, 2}, {14}, {17}}) {
                breaks(1, of(1, 2, 12), above(8, last));
            }
            breaks(1, of(), above(7, 1));
            breaks(1, of(2), above(7, 4, 0));
            leaves(" | 1 1 1 1 1 1 1 1", of(), above(7, 0));
            leaves(" | 1 1 1 1 1 1 2 3", of(), above(6, 1));
        });
        s.sentence("2 it has too few;", () -> {
            breaks(2, of(), op(24));
            breaks(2, of(), op(0), op(24), op(24));
            breaks(2, of(), op(0), op(25));
        });
        s.sentence("3, 4 as told;", () -> {
            breaks(3, of(), op(17), op(3, 0));
            breaks(4, of(), op(2, 0));
        });
        s.sentence("5 it would go on behind the last OP;", () -> {
            ends("one op", new Program(0).ops(op(0)), 5, 0, 1);
            ends("a branch, its jump first", new Program(0).ops(op(0), op(11, 0)), 5, 1, 2);
            Program full = new Program(0);
            for (int place = 0; place < 40; place++) {
                full.ops(op(place < 39 ? 12 : 0, 39));
            }
            ends("the last of forty", full, 5, 39, 2);
            ends("it does not go on", new Program(0).ops(op(23)), 0, NONE, 1);
            ends("it jumps", new Program(0).ops(op(12, 0)), 0, NONE, 1);
        });
        s.sentence("6 a jump, a handler to a place that is not there;", () -> {
            ends("the first that is not there", new Program(0).ops(op(12, 1)), 6, 0, 1);
            ends("the last that is there", new Program(0).ops(op(12, 1), op(23)), 0, NONE, 2);
            ends("far", new Program(0).ops(op(12, GREATEST)), 6, 0, 1);
            ends("a branch", new Program(0).ops(op(0), op(11, 3), op(23)), 6, 1, 2);
            ends("not reached", new Program(0).ops(op(23), op(12, 40)), 0, NONE, 1);
            ends("a handler", new Program(0).ops(op(0), op(23)).guard(1, 2, 2, 0), 6, 1, 2);
            ends("the last handler", new Program(0).ops(op(0), op(23)).guard(0, 1, 39, 0), 6, 0, 1);
        });
        s.sentence("7 an UNMADE lies in LOCALS or on the PILE (as the OP left them) as it jumps to a place that is not behind this OP;",
            SentencesOfOps::unmadeGoesBack);
        s.sentence("8 two FRAMES that meet have PILES of unlike height,", () -> {
            ends("higher", new Program(0).ops(op(0), op(12, 0)), 8, 1, 2);
            ends("lower", new Program(0).ops(op(0), op(24), op(12, 1)), 8, 2, 3);
            ends("alike", new Program(0).ops(op(0), op(24), op(12, 0)), 0, NONE, 3);
        });
        s.sentence("or of two places there the JOIN is 0.", () -> {
            ends("the only place", ways(op(0), op(17)), 8, 4, 5);
            ends("two unmade ones", ways(op(13, 2), op(13, 2)), 8, 4, 5);
            ends("another join", ways(op(17), op(6, 0)), 0, NONE, 6);
            Program low = new Program(0).ops(op(0), op(11, 5), op(0), op(17), op(12, 7), op(17), op(17), op(23));
            ends("the lowest place", low, 8, 6, 7);
            Program high = new Program(0).ops(op(0), op(11, 5), op(17), op(0), op(12, 7), op(17), op(17), op(23));
            ends("the highest place", high, 8, 6, 7);
        });
    }

    /** Two ways to place 5, with an OP of their own each. */
    private static Program ways(int[] one, int[] other) {
        return new Program(0, 12).ops(op(0), op(11, 4), one, op(12, 5), other, op(23));
    }

    private static void unmadeGoesBack() {
        ends("on the pile", new Program(0).ops(op(13, 2), op(12, 0)), 7, 1, 2);
        ends("to itself", new Program(0).ops(op(13, 2), op(12, 1)), 7, 1, 2);
        ends("in the first local", new Program(0).ops(op(13, 2), op(7, 0), op(12, 0)), 7, 2, 3);
        ends("in the last local", new Program(0).ops(op(13, 2), op(7, 7), op(12, 2)), 7, 2, 3);
        ends("below another one", new Program(0).ops(op(13, 2), op(0), op(0), op(11, 0), op(23)), 7, 3, 4);
        ends("to the next", new Program(0).ops(op(13, 2), op(12, 2), op(23)), 0, NONE, 3);
        ends("a branch to the next", new Program(0).ops(op(13, 2), op(0), op(11, 3), op(23)), 0, NONE, 4);
        ends("goes on, does not jump", new Program(0).ops(op(13, 2), op(24), op(12, 0)), 0, NONE, 3);
        ends("made", new Program(0).ops(op(13, 2), op(15, 2), op(12, 0)), 0, NONE, 3);
        ends("raised", new Program(0).ops(op(12, 3), op(24), op(23), op(13, 2), op(23)).guard(4, 5, 1, 0), 0, NONE, 5);
    }
}
