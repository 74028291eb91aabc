/** What it is, sentence by sentence. */
final class SentencesOfTheWhole extends Asked {
    private static final int CALLS = 512;

    private SentencesOfTheWhole() {
    }

    static void tell(Sentences s) {
        s.section("What it is");
        s.sentence("Frames of methods: what lies in locals and on the pile at each place, by a fixed point over jumps, loops and "
            + "handlers; joins through classes, wide pairs, things that are not made yet, rows; the first fault with its place, "
            + "maxima, least forms of the frames that are told.", SentencesOfTheWhole::allTogether);
        s.sentence("An object is used for at most 512 calls after it has been made; what later calls answer is free.",
            SentencesOfTheWhole::asManyCalls);
    }

    /** A loop from 12 to 2 that puts a THING of another CLASS and a LONG into LOCALS; a handler of its OPS at 15. */
    private static Program loopWithHandler() {
        return new Program(12, 13, 14, 2).ops(op(6, 0), op(7, 4), op(0), op(11, 13), op(13, 2), op(14), op(15, 2), op(24),
            op(4, 2), op(5, 5), op(6, 1), op(7, 4), op(12, 2), op(6, 4), op(23), op(24), op(17), op(23)).guard(4, 8, 15, 1);
    }

    private static void allTogether() {
        Program p = loopWithHandler();
        ends("a loop with a handler", p, 0, NONE, 28);
        check.due("the beginning", p.locals(0), "13 14 2 3");
        check.due("the loop's head", p.locals(2), "13 14 2 3 12");
        check.due("the loop's end", p.locals(12), "13 14 2 3 14 2 3");
        check.due("not made yet", p.pile(6), "104 104");
        check.due("made", p.pile(7), "12");
        check.due("a wide pair", p.pile(9), "2 3");
        check.due("behind the loop", p.locals(13), "13 14 2 3 12");
        check.due("the handler", p.locals(15) + " | " + p.pile(15), "13 14 2 3 12 | 11");
        check.due("the most places of the pile", p.x.told(0, 2), 2);
        check.due("wanted locals", p.x.told(0, 3), 7);
        check.due("form of the loop's head", p.x.form(0, 2), 5);
        check.due("form behind the loop", p.x.form(0, 13), 0);
        check.due("form of the handler", p.x.form(0, 15), 1);
        p.ops(op(0)).guard(17, 18, 18, 0);
        ends("the first fault", p, 5, 18, 29);
    }

    /** The calls before the last are of THE WORK, done again and again. */
    private static void asManyCalls() {
        Program p = loopWithHandler();
        int made = 5 + 1 + 3 + 18 + 1;
        for (int call = made; call < CALLS - 1; call++) {
            check.due("call " + call, p.compute(), 0);
        }
        check.due("the last call", p.x.told(0, 1), 28);
    }
}
