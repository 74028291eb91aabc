/** The Terms, sentence by sentence: 4 THE WORK, 5 TOLD places and FORMS. */
final class SentencesOfWork extends Asked {
    private SentencesOfWork() {
    }

    static void tell(Sentences s) {
        s.section("4");
        tellGoingThrough(s);
        tellMeeting(s);
        tellEnds(s);
        s.section("5");
        tellToldPlaces(s);
        tellForms(s);
    }

    private static void tellGoingThrough(Sentences s) {
        s.sentence("4 THE WORK on a METHOD: place 0 has its FRAME.", () -> {
            Program p = new Program(0, 12).ops(op(23), op(23));
            ends("one place", p, 0, NONE, 1);
            check.due("locals at 0", p.locals(0), "12");
            check.due("another place", p.x.height(0, 1), NONE);
        });
        s.sentence("Again and again, the least place that is to be looked at is gone through:", SentencesOfWork::leastPlaceFirst);
        s.sentence("first each GUARD (from .. to, without to) that has it, in order:", SentencesOfWork::guardsFirst);
        s.sentence("the FRAME of its handler is met by the LOCALS here, in which UNMADES are 0,", SentencesOfWork::localsOfHandlers);
        s.sentence("with a PILE of 10 + its CLASS;", () -> {
            Program p = new Program(0).ops(op(0), op(0), op(23), op(23), op(23)).guard(2, 3, 3, 0).guard(2, 3, 4, 6);
            p.compute();
            check.due("class 0", p.pile(3), "10");
            check.due("class 6", p.pile(4), "16");
            Program q = new Program(0).ops(op(23), op(23)).guard(0, 1, 1, 6).guard(0, 1, 1, 1);
            q.compute();
            check.due("join of 6 and 1", q.pile(1), "11");
            Program face = new Program(0).ops(op(23), op(23)).guard(0, 1, 1, 5);
            face.compute();
            check.due("a face", face.pile(1), "15");
        });
        s.sentence("then the OP is done on a copy of the FRAME;", () -> {
            Program p = new Program(0, 2).ops(op(17), op(0), op(3, 0), op(23));
            p.compute();
            check.due("pile before it is taken", p.pile(2), "4 1");
            check.due("locals before it is put", p.locals(2), "2 3");
            check.due("behind it", p.locals(3) + " | " + p.pile(3), "1 | 4");
            Program made = new Program(0).ops(op(13, 2), op(14), op(15, 2), op(23));
            made.compute();
            check.due("before it is made", made.pile(2), "100 100");
            Program itself = new Program(0, 16).ops(op(6, 0), op(16, 6, 0), op(23)).guard(1, 2, 1, 1);
            ends("as its own guard left it", itself, 3, 1, 2);
        });
        s.sentence("then the places where it goes on are met by that", () -> {
            Program p = new Program(0, 12).ops(op(0), op(11, 4), op(6, 0), op(23), op(23));
            ends("a branch", p, 0, NONE, 5);
            check.due("the next place", p.locals(2) + " | " + p.pile(2), "12 | ");
            check.due("place a", p.locals(4) + " | " + p.pile(4), "12 | ");
            check.due("behind the next", p.locals(3) + " | " + p.pile(3), "12 | 12");
        });
        s.sentence("(11: place a first, then the next one;", () -> {
            ends("6 of place a, 5 of the next", new Program(0).ops(op(0), op(11, 2)), 6, 1, 2);
            Program p = new Program(0).ops(op(0), op(0), op(11, 0));
            ends("8 of place a, 5 of the next", p, 8, 2, 3);
            Program q = new Program(0).ops(op(0), op(11, 1), op(23));
            ends("8 of place a", q, 8, 1, 2);
            check.due("the next is not met then", q.x.height(0, 2), NONE);
            Program r = new Program(0).ops(op(12, 2), op(23), op(0), op(11, 1));
            ends("5 of the next", r, 5, 3, 3);
            check.due("place a is met before", r.x.height(0, 1), 0);
        });
        s.sentence("of each RULE 5 or 6, then 7, then 8).", () -> {
            ends("6 before 7", new Program(0).ops(op(13, 2), op(12, GREATEST)), 6, 1, 2);
            ends("7 before 8", new Program(0).ops(op(13, 2), op(12, 0)), 7, 1, 2);
            ends("7 of place a before 5", new Program(0).ops(op(13, 2), op(0), op(11, 1)), 7, 2, 3);
            ends("the op before 6", new Program(0).ops(op(17), op(11, 9)), 3, 1, 2);
        });
    }

    private static void leastPlaceFirst() {
        Program later = new Program(0).ops(op(0), op(11, 5), op(0), op(3, 0), op(12, 5), op(24), op(23));
        ends("2, 3 and 4 before 5, that was met first", later, 2, 5, 6);
        Program two = new Program(0).ops(op(0), op(11, 3), op(24), op(24));
        ends("2 before 3", two, 2, 2, 3);
        Program back = new Program(0, 1).ops(op(17), op(7, 0), op(0), op(11, 0), op(24));
        ends("0 and 1 once more before 4, that was met last", back, 2, 4, 7);
    }

    /** GUARDS with a handler that is not there tell which places they have: RULE 6, and at which place. */
    private static void guardsFirst() {
        int[][] ops = {{0}, {24}, {0}, {24}, {23}};
        ends("from", new Program(0).ops(ops).guard(2, 40, 39, 0), 6, 2, 3);
        ends("one place", new Program(0).ops(ops).guard(4, 5, 39, 0), 6, 4, 5);
        ends("without to", new Program(0).ops(op(12, 2), op(23), op(23)).guard(1, 2, 39, 0), 0, NONE, 2);
        ends("before the op", new Program(0).ops(op(24)).guard(0, 1, 39, 0), 6, 0, 1);
        ends("a join that is 0 first", new Program(0).ops(op(0), op(23)).guard(1, 2, 1, 0).guard(1, 2, 39, 0), 8, 1, 2);
        ends("no place first", new Program(0).ops(op(0), op(23)).guard(1, 2, 39, 0).guard(1, 2, 1, 0), 6, 1, 2);
        Program all = new Program(0).ops(op(0), op(23), op(23), op(23), op(23), op(23), op(23), op(23));
        for (int handler = 2; handler < 8; handler++) {
            all.guard(1, 2, handler, 0);
        }
        ends("all six of a place", all, 0, NONE, 8);
    }

    private static void localsOfHandlers() {
        Program p = new Program(0, 1, 2, 13).ops(op(23), op(23)).guard(0, 1, 1, 0);
        p.compute();
        check.due("locals here", p.locals(1), "1 2 3 13");
        Program before = new Program(0, 1).ops(op(17), op(7, 0), op(23), op(23)).guard(1, 2, 3, 0);
        before.compute();
        check.due("as they are before the op", before.locals(3), "1");
        Program unmade = new Program(0, 1).ops(op(13, 2), op(14), op(7, 1), op(7, 7), op(23), op(23)).guard(4, 5, 5, 0);
        unmade.compute();
        check.due("here", unmade.locals(4), "1 100 0 0 0 0 0 100");
        check.due("there", unmade.locals(5), "1");
        Program joined = new Program(0, 13).ops(op(13, 2), op(7, 0), op(23), op(23)).guard(0, 3, 3, 0);
        joined.compute();
        check.due("met by a thing, then by an unmade one", joined.locals(3), "");
        check.due("the unmade one stays here", joined.locals(2), "100");
    }

    private static void tellMeeting(Sentences s) {
        s.sentence("MET: a place without a FRAME has that one from now on, and is to be looked at;", () -> {
            Program p = new Program(0, 13).ops(op(17), op(12, 3), op(23), op(25));
            ends("looked at", p, 2, 3, 3);
            check.due("its frame", p.locals(3) + " | " + p.pile(3), "13 | 4");
            check.due("not met", p.x.height(0, 2), NONE);
            ends("a handler looked at", new Program(0).ops(op(23), op(25)).guard(0, 1, 1, 0), 2, 1, 2);
        });
        s.sentence("else each LOCAL, each place of the PILE becomes the JOIN", SentencesOfWork::eachBecomesTheJoin);
        s.sentence("(a LOCAL 2 or 3 whose other half is not 3 or 2 behind that becomes 0),", () -> {
            check.due("a long and one beside it", joinedLocals(of(2), op(1), op(5, 1)), "");
            check.due("two longs and one between", joinedLocals(of(2, 2), op(1), op(5, 1)), "");
            check.due("its first half", joinedLocals(of(2), op(0), op(3, 0)), "");
            check.due("its second half", joinedLocals(of(2), op(0), op(3, 1)), "");
            check.due("the last two", joinedLocals(of(1, 1, 1, 1, 1, 1, 2), op(0), op(3, 7)), "1 1 1 1 1 1");
            check.due("a long and a long", joinedLocals(of(1, 2), op(1), op(5, 1)), "1 2 3");
        });
        s.sentence("and if something is another one than before it is to be looked at", () -> {
            Program local = new Program(0, 14, 1, 1, 1, 1, 1, 1, 13).ops(op(6, 0), op(7, 7), op(12, 0));
            ends("the last local", local, 0, NONE, 5);
            check.due("its join", local.x.frame(0, 0, 7), 12);
            Program first = new Program(0, 13, 14).ops(op(6, 1), op(7, 0), op(12, 0));
            ends("the first local", first, 0, NONE, 5);
            Program pile = new Program(0, 13, 14).ops(op(6, 0), op(24), op(6, 1), op(12, 1));
            ends("the pile", pile, 0, NONE, 5);
            Program same = new Program(0, 12, 13).ops(op(6, 0), op(24), op(6, 1), op(12, 1));
            ends("nothing", same, 0, NONE, 4);
            ends("itself", new Program(0).ops(op(12, 0)), 0, NONE, 1);
            Program handler = new Program(0, 13, 14).ops(op(6, 1), op(7, 0), op(23), op(23)).guard(0, 3, 3, 0);
            ends("a handler before it is looked at", handler, 0, NONE, 4);
        });
        s.sentence("(a RULE 8 leaves it as it was).", () -> {
            Program p = new Program(0, 13, 14)
                .ops(op(0), op(11, 5), op(6, 0), op(0), op(12, 9), op(6, 1), op(17), op(7, 0), op(17), op(23));
            ends("the second place of the pile", p, 8, 8, 9);
            check.due("the pile", p.pile(9), "13 1");
            check.due("the locals", p.locals(9), "13 14");
            Program q = new Program(0, 13, 14).ops(op(6, 1), op(7, 0), op(0), op(12, 0));
            ends("unlike height", q, 8, 3, 4);
            check.due("the locals", q.locals(0), "13 14");
            check.due("the pile", q.x.height(0, 0), 0);
        });
    }

    /** All 8 LOCALS and all 8 places of the PILE are of CLASS 3 on one way and of 4 on the other, or so. */
    private static void eachBecomesTheJoin() {
        Program p = new Program(0, 13, 14, 13, 14, 13, 14, 13, 14).ops(op(0), op(11, 11));
        layLocal0(p);
        p.ops(op(12, 35));
        for (int i = 0; i < 8; i += 2) {
            p.ops(op(6, i), op(6, i + 1), op(7, i), op(7, i + 1));
        }
        layLocal0(p);
        p.ops(op(23));
        check.due("compute", p.compute(), 0);
        check.due("locals of one way", p.locals(10), "13 14 13 14 13 14 13 14");
        check.due("locals of the other", p.locals(34), "14 13 14 13 14 13 14 13");
        check.due("locals", p.locals(35), "12 12 12 12 12 12 12 12");
        check.due("pile", p.pile(35), "12 12 12 12 12 12 12 12");
        check.due("null and a thing", joinedLocals(of(13), op(17), op(7, 0)), "13");
        check.due("a row and a thing", joinedLocals(of(13, 5), op(6, 1), op(7, 0)), "10 5");
        check.due("an int and null", joinedLocals(of(1), op(17), op(7, 0)), "");
    }

    private static void layLocal0(Program p) {
        for (int i = 0; i < 8; i++) {
            p.ops(op(6, 0));
        }
    }

    /** LOCALS where a way without OPS and one with two of them meet. */
    private static String joinedLocals(int[] arguments, int[] one, int[] other) {
        Program p = new Program(0, arguments).ops(op(0), op(11, 4), one, other, op(23));
        check.due("compute", p.compute(), 0);
        return p.locals(4);
    }

    private static void tellEnds(Sentences s) {
        s.sentence("The first RULE that is broken ends THE WORK,", () -> {
            Program p = new Program(0).ops(op(0), op(11, 4), op(0), op(25), op(2, 0));
            ends("2 at place 3, before 4 at place 4", p, 2, 3, 4);
            check.due("the place that is still to be looked at", p.x.height(0, 4), 0);
            Program q = new Program(0).ops(op(24), op(23)).guard(0, 1, 39, 0);
            ends("a guard's, before the op's", q, 6, 0, 1);
            check.due("it does not go on", q.x.height(0, 1), NONE);
        });
        s.sentence("its place being that of the OP (of a RULE 8 by a GUARD, too).", () -> {
            ends("of an op", new Program(0).ops(op(0), op(24), op(24)), 2, 2, 3);
            ends("of a jump", new Program(0).ops(op(0), op(0), op(12, 0)), 8, 2, 3);
            ends("of what goes on", new Program(0).ops(op(0), op(11, 3), op(0), op(23)), 8, 2, 3);
            Program guard = new Program(0).ops(op(12, 2), op(23), op(0), op(12, 1)).guard(2, 3, 1, 0);
            ends("of a handler that was met", guard, 8, 3, 4);
            Program guarded = new Program(0).ops(op(0), op(24), op(24), op(23)).guard(2, 3, 0, 1);
            ends("of a guarded place", guarded, 8, 2, 3);
            ends("of a handler that is not there", new Program(0).ops(op(0), op(23)).guard(1, 2, 39, 1), 6, 1, 2);
        });
        s.sentence("It is right, if nothing is to be looked at any more.", () -> {
            ends("it returns", new Program(0).ops(op(23)), 0, NONE, 1);
            ends("it never ends", new Program(0).ops(op(0), op(24), op(12, 0)), 0, NONE, 3);
            Program p = new Program(0, 13, 14).ops(op(6, 0), op(7, 2), op(0), op(11, 7), op(6, 1), op(7, 2), op(12, 2), op(23));
            ends("after some rounds", p, 0, NONE, 12);
        });
    }

    private static void tellToldPlaces(Sentences s) {
        s.sentence("5 TOLD places are those that jumps (11, 12, of places that have a FRAME)", () -> {
            Program p = new Program(0).ops(op(0), op(11, 4), op(12, 5), op(12, 6), op(23), op(23), op(23));
            int[] want = {NONE, NONE, NONE, NONE, 0, 0, NONE};
            for (int place = 0; place < want.length; place++) {
                form("place " + place, p, place, want[place]);
            }
        });
        s.sentence("and handlers (of GUARDS that have such a place) lead to.", () -> {
            Program p = new Program(0).ops(op(12, 2), op(23), op(23), op(23), op(23)).guard(1, 3, 3, 0).guard(1, 2, 4, 0).guard(3, 4, 4, 0);
            form("of a guard whose last place has one", p, 3, 1);
            form("of a handler's own guard", p, 4, 1);
            Program q = new Program(0).ops(op(23), op(23), op(23)).guard(1, 40, 2, 0);
            form("of places without one", q, 2, NONE);
        });
        s.sentence("Their FORMS, each by the TOLD one before it", () -> {
            Program p = new Program(0, 1).ops(op(12, 5), op(0), op(3, 3), op(12, 8), op(23), op(0), op(3, 1), op(12, 1), op(23));
            form("place 1, by the beginning", p, 1, 5);
            form("place 5, by 1, that was met later", p, 5, 2);
            form("place 8, by 5, not by 1", p, 8, 7);
            Program near = new Program(0).ops(op(0), op(3, 0), op(0), op(12, 4), op(3, 1), op(0), op(11, 5), op(23));
            form("place 4, by the beginning", near, 4, 8);
            form("place 5, by the place right before it", near, 5, 5);
        });
        s.sentence("(the first by the beginning):", () -> {
            jumped("arguments", 0, of(1, 2, 12));
            jumped("one more than arguments", 5, of(1), op(0), op(3, 1));
            Program p = new Program(0, 1).ops(op(17), op(7, 0), op(12, 0));
            form("place 0 itself, where a loop leaves nothing", p, 0, 2);
            Program q = new Program(0, 1, 1).ops(op(17), op(7, 1), op(0), op(11, 5), op(12, 5), op(0), op(11, 0), op(23));
            form("place 0, one less", q, 0, 2);
            form("place 5, by 0", q, 5, 5);
        });
    }

    private static void tellForms(Sentences s) {
        s.sentence("LOCALS are written as a row of values (a LONG is one;", () -> {
            jumped("one long more", 5, of(), op(1), op(5, 0));
            jumped("three longs more", 7, of(2), op(1), op(5, 2), op(1), op(5, 4), op(1), op(5, 6));
            form("three longs less", losing(of(2, 2, 2), 0, 2, 4), 8, 4);
            jumped("a long and its halves' places", 8, of(2), op(0), op(3, 1));
        });
        s.sentence("0s at its end are left out).", () -> {
            form("a 0 at the end", losing(of(1, 1), 1), 4, 2);
            Program zeros = new Program(0, 1, 1, 1).ops(op(0), op(11, 4), op(17), op(7, 1), op(0), op(11, 8), op(17), op(7, 2), op(23));
            form("a 0 that is not at the end", zeros, 4, 8);
            form("two 0s at the end", zeros, 8, 3);
            jumped("a 0 and one more", 6, of(1), op(0), op(3, 2));
            jumped("two 0s and one more", 7, of(1), op(0), op(3, 3));
            jumped("three 0s and one more", 8, of(1), op(0), op(3, 4));
        });
        s.sentence("0 the same LOCALS, an empty PILE;", () -> {
            jumped("none", 0, of());
            jumped("some", 0, of(1, 2, 12));
            jumped("all", 0, of(2, 2, 2, 1, 45));
            jumped("put once more", 0, of(13), op(17), op(18, 3), op(7, 0));
        });
        s.sentence("1 the same, one value on the PILE;", () -> {
            jumped("an int", 1, of(1, 2), op(0));
            jumped("a long", 1, of(1, 2), op(1));
            jumped("an unmade one", 1, of(), op(13, 2));
            jumped("two ints", 8, of(1), op(0), op(0));
            jumped("a long and an int", 8, of(1), op(1), op(0));
            jumped("an int and a long", 8, of(1), op(0), op(1));
        });
        s.sentence("2, 3, 4: one, two, three values less at the end of the row,", () -> {
            form("one", losing(of(1, 1, 1, 1), 3), 4, 2);
            form("two", losing(of(1, 1, 1, 1), 3, 2), 6, 3);
            form("three", losing(of(1, 1, 1, 1), 3, 2, 1), 8, 4);
            form("four", losing(of(1, 1, 1, 1), 3, 2, 1, 0), 10, 8);
            form("the only one", losing(of(1), 0), 4, 2);
            form("not at the end", losing(of(1, 1, 1), 0), 4, 8);
        });
        s.sentence("the others the same, an empty PILE;", () -> {
            Program pile = new Program(0, 1, 1).ops(op(0), op(11, 6), op(17), op(7, 1), op(0), op(12, 7), op(0), op(23));
            form("one less, one on the pile", pile, 7, 8);
            Program other = new Program(0, 13, 1).ops(op(0), op(11, 6), op(17), op(7, 1), op(17), op(7, 0), op(23));
            form("one less, the other the same", other, 6, 2);
            Program another = new Program(0, 13, 1, 14).ops(op(0), op(11, 6), op(6, 2), op(7, 0), op(17), op(7, 1), op(23));
            form("a class above", another, 6, 8);
            form("one less, another kind before it", lessAndAnother(), 8, 8);
        });
        s.sentence("5, 6, 7: so many more, likewise;", () -> {
            jumped("one", 5, of(1), op(0), op(3, 1));
            jumped("two", 6, of(1), op(0), op(3, 1), op(0), op(3, 2));
            jumped("three", 7, of(1), op(0), op(3, 1), op(0), op(3, 2), op(0), op(3, 3));
            jumped("four", 8, of(1), op(0), op(3, 1), op(0), op(3, 2), op(0), op(3, 3), op(0), op(3, 4));
            jumped("one, and one on the pile", 8, of(1), op(0), op(3, 1), op(0));
            jumped("one, another kind before it", 8, of(1), op(17), op(7, 0), op(0), op(3, 1));
        });
        s.sentence("8 else.", () -> {
            jumped("another kind", 8, of(1, 1), op(17), op(7, 0));
            jumped("another kind, one on the pile", 8, of(1), op(17), op(7, 0), op(0));
            jumped("a class above", 8, of(13), op(17), op(18, 2), op(7, 0));
            jumped("a pile of eight", 8, of(), above(7, 0));
        });
    }

    /** At place 8 the last of two LOCALS is gone, and the first one is of another CLASS than at the beginning. */
    private static Program lessAndAnother() {
        return new Program(0, 13, 1).ops(op(17), op(18, 4), op(7, 0), op(0), op(11, 8), op(17), op(7, 1), op(12, 8), op(23));
    }
}
