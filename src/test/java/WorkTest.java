/** Promises 9 to 12: compute (RULES 5 to 8, GUARDS, loops), told, frame, height. */
public final class WorkTest extends Asked {
    public static void main(String[] args) {
        wrongNumbers();
        behindTheLast();
        placesThatAreNotThere();
        unmadeGoesBack();
        unlikeFrames();
        unlikeFrameStays();
        loops();
        straightBeforeBack();
        guardsInOrder();
        handlerOfItself();
        guardsAndUnmade();
        mostOfThePile();
        wantedLocals();
        framesAreTold();
        laterWork();
        check.end();
    }

    private static void wrongNumbers() {
        ChainFrames x = new ChainFrames();
        check.due("compute of no method", x.compute(0), BAD);
        check.due("told of no method", x.told(0, 0), BAD);
        x.method(0);
        check.due("compute without ops", x.compute(0), NO);
        check.due("told without work", x.told(0, 0), NO);
        check.due("frame without ops", x.frame(0, 0, 0), BAD);
        check.due("height without ops", x.height(0, 0), BAD);
        check.due("form without ops", x.form(0, 0), BAD);
        x.op(0, 23, 0, 0);
        check.due("frame without work", x.frame(0, 0, 0), NO);
        check.due("height without work", x.height(0, 0), NO);
        check.due("form without work", x.form(0, 0), NO);
        check.due("compute", x.compute(0), 0);
        for (int bad : new int[] {-1, 1, 6, LEAST, GREATEST}) {
            check.due("compute(" + bad + ")", x.compute(bad), BAD);
            check.due("told(" + bad + ", 0)", x.told(bad, 0), BAD);
            check.due("frame(" + bad + ", 0, 0)", x.frame(bad, 0, 0), BAD);
            check.due("frame(0, " + bad + ", 0)", x.frame(0, bad, 0), BAD);
            check.due("height(" + bad + ", 0)", x.height(bad, 0), BAD);
            check.due("height(0, " + bad + ")", x.height(0, bad), BAD);
        }
        for (int bad : new int[] {-1, 4, LEAST, GREATEST}) {
            check.due("told(0, " + bad + ")", x.told(0, bad), BAD);
        }
        for (int bad : new int[] {-1, 16, LEAST, GREATEST}) {
            check.due("frame(0, 0, " + bad + ")", x.frame(0, 0, bad), BAD);
        }
    }

    private static void behindTheLast() {
        ends("one op", new Program(0).ops(op(0)), 5, 0, 1);
        ends("two ops", new Program(0).ops(op(0), op(24)), 5, 1, 2);
        ends("a branch, its jump first", new Program(0).ops(op(0), op(11, 0)), 5, 1, 2);
        ends("a rule of the op comes first", new Program(0).ops(op(24)), 2, 0, 1);
        ends("a branch to what is not there", new Program(0).ops(op(0), op(11, 2)), 6, 1, 2);
    }

    private static void placesThatAreNotThere() {
        ends("jump to the end", new Program(0).ops(op(12, 1)), 6, 0, 1);
        ends("jump far", new Program(0).ops(op(12, GREATEST)), 6, 0, 1);
        ends("branch far", new Program(0).ops(op(0), op(11, 40), op(23)), 6, 1, 2);
        ends("not reached", new Program(0).ops(op(23), op(12, 40)), 0, NONE, 1);
        ends("handler", new Program(0).ops(op(0), op(23)).guard(1, 2, 2, 0), 6, 1, 2);
        ends("handler before the op", new Program(0).ops(op(24)).guard(0, 1, 1, 0), 6, 0, 1);
        ends("handler of no place", new Program(0).ops(op(23)).guard(1, 40, 39, 0), 0, NONE, 1);
        ends("handler of places not reached", new Program(0).ops(op(23), op(23)).guard(1, 2, 39, 0), 0, NONE, 1);
        ends("unmade to what is not there", new Program(0).ops(op(13, 2), op(12, 2)), 6, 1, 2);
    }

    private static void unmadeGoesBack() {
        ends("back, on the pile", new Program(0).ops(op(13, 2), op(12, 0)), 7, 1, 2);
        ends("to itself", new Program(0).ops(op(13, 2), op(12, 1)), 7, 1, 2);
        ends("back, in a local", new Program(0).ops(op(13, 2), op(7, 7), op(12, 0)), 7, 2, 3);
        ends("ahead", new Program(0).ops(op(13, 2), op(12, 2), op(23)), 0, NONE, 3);
        ends("branch back", new Program(0).ops(op(13, 2), op(0), op(11, 0), op(23)), 7, 2, 3);
        ends("branch ahead", new Program(0).ops(op(13, 2), op(0), op(11, 3), op(23)), 0, NONE, 4);
        ends("made before", new Program(0).ops(op(13, 2), op(15, 2), op(12, 0)), 0, NONE, 3);
        ends("made, another one is not", new Program(0).ops(op(13, 2), op(13, 2), op(15, 2), op(12, 0)), 7, 3, 4);
        ends("dropped before", new Program(0).ops(op(13, 2), op(24), op(12, 0)), 0, NONE, 3);
    }

    private static void unlikeFrames() {
        ends("back, higher", new Program(0).ops(op(0), op(12, 0)), 8, 1, 2);
        ends("back, lower", new Program(0).ops(op(0), op(0), op(24), op(24), op(12, 1)), 8, 4, 5);
        Program unlike = new Program(0).ops(op(0), op(11, 4), op(0), op(12, 5), op(17), op(23));
        ends("int and null", unlike, 8, 4, 5);
        Program alike = new Program(0, 13, 14).ops(op(0), op(11, 4), op(6, 0), op(12, 5), op(6, 1), op(23));
        ends("things", alike, 0, NONE, 6);
        check.due("join on the pile", alike.pile(5), "12");
        Program pairs = new Program(0).ops(op(0), op(11, 4), op(1), op(12, 6), op(0), op(0), op(23));
        ends("long and two ints", pairs, 8, 5, 6);
        Program unmade = new Program(0).ops(op(0), op(11, 4), op(13, 2), op(12, 5), op(13, 2), op(23));
        ends("two unmade ones", unmade, 8, 4, 5);
        Program next = new Program(0).ops(op(0), op(11, 1), op(23));
        ends("the jump of a branch comes first", next, 8, 1, 2);
        check.due("then not the next", next.x.height(next.m, 2), NONE);
    }

    private static void unlikeFrameStays() {
        Program p = new Program(0, 13, 14).ops(op(0), op(11, 5), op(6, 0), op(0), op(12, 9), op(6, 1), op(17), op(7, 0), op(17), op(23));
        ends("the second place of the pile", p, 8, 8, 9);
        check.due("pile as it was", p.pile(9), "13 1");
        check.due("locals as they were", p.locals(9), "13 14");
    }

    private static void loops() {
        Program p = new Program(0, 13, 14).ops(op(6, 0), op(7, 2), op(0), op(11, 8), op(6, 1), op(7, 2), op(12, 2), op(23), op(23));
        ends("a local of two kinds", p, 0, NONE, 12);
        check.due("head", p.locals(2), "13 14 12");
        check.due("end", p.locals(8), "13 14 12");
        check.due("before the jump", p.locals(6), "13 14 14");
        check.due("not reached", p.x.frame(p.m, 7, 0), NONE);
        Program toNothing = new Program(0, 1, 2).ops(op(0), op(11, 5), op(17), op(7, 1), op(12, 0), op(23));
        check.due("long to nothing", toNothing.compute(), 0);
        check.due("long to nothing", toNothing.locals(0), "1");
        check.due("no change, no pass", new Program(0).ops(op(12, 0)).compute(), 0);
        ends("a place on itself", new Program(0).ops(op(12, 0)), 0, NONE, 1);
        Program late = new Program(0, 1).ops(op(0), op(11, 4), op(17), op(7, 0), op(2, 0), op(23));
        ends("a local that is gone", late, 4, 4, 5);
    }

    /** The least place is next: 2 to 4 are gone through before 5, that 1 has met first. */
    private static void straightBeforeBack() {
        Program p = new Program(0).ops(op(0), op(11, 5), op(0), op(3, 0), op(12, 5), op(24), op(23));
        ends("the first rule by place", p, 2, 5, 6);
        check.due("joined before", p.locals(5), "");
        Program two = new Program(0).ops(op(0), op(11, 3), op(24), op(24));
        ends("2 breaks a rule before 3", two, 2, 2, 3);
    }

    private static void guardsInOrder() {
        Program p = new Program(0, 13).ops(op(0), op(24), op(23), op(24), op(23)).guard(0, 2, 3, 1).guard(1, 2, 3, 6);
        ends("two guards of a handler", p, 0, NONE, 5);
        check.due("its pile", p.pile(3), "11");
        check.due("its locals", p.locals(3), "13");
        Program root = new Program(0).ops(op(0), op(23), op(24), op(23)).guard(0, 1, 2, 2).guard(0, 1, 2, 1);
        ends("join of two", root, 0, NONE, 4);
        check.due("its pile", root.pile(2), "10");
        Program without = new Program(0).ops(op(0), op(3, 0), op(23), op(24), op(23)).guard(0, 2, 3, 1);
        ends("without to", without, 0, NONE, 5);
        check.due("locals of from .. to - 1", without.locals(3), "");
        Program to = new Program(0, 1).ops(op(17), op(7, 0), op(23), op(24), op(23)).guard(0, 2, 3, 1);
        ends("without to", to, 0, NONE, 5);
        check.due("locals of 0, 1", to.locals(3), "1");
        Program first = new Program(0).ops(op(0), op(3, 0), op(23), op(24), op(23)).guard(2, 3, 3, 1);
        first.compute();
        check.due("locals of 2", first.locals(3), "1");
        Program rule8 = new Program(0).ops(op(0), op(0), op(23)).guard(0, 1, 2, 1);
        ends("rule 8 of the op at the handler", rule8, 8, 1, 2);
        Program guard8 = new Program(0).ops(op(0), op(12, 3), op(23), op(24), op(24)).guard(1, 4, 2, 1).guard(3, 4, 3, 1);
        ends("rule 8 by a guard", guard8, 8, 3, 4);
        Program before = new Program(0).ops(op(0), op(24), op(24), op(23)).guard(2, 3, 1, 1).guard(2, 3, 39, 1);
        ends("the first guard that breaks a rule", before, 8, 2, 3);
        Program dead = new Program(0).ops(op(24)).guard(0, 1, 0, 1);
        ends("rule 8 before the op", dead, 8, 0, 1);
    }

    /** A handler that guards itself: what it has met is what the OP is done on. */
    private static void handlerOfItself() {
        Program p = new Program(0, 16).ops(op(6, 0), op(16, 6, 0), op(23)).guard(1, 2, 1, 1);
        ends("the op finds the join", p, 3, 1, 2);
        check.due("its pile", p.pile(1), "11");
        Program q = new Program(0, 16).ops(op(6, 0), op(16, 1, 0), op(23)).guard(1, 2, 1, 1);
        ends("looked at once more", q, 0, NONE, 4);
    }

    private static void guardsAndUnmade() {
        Program p = new Program(0).ops(op(12, 3), op(24), op(23), op(13, 2), op(7, 0), op(0), op(3, 1), op(23)).guard(3, 8, 1, 1);
        check.due("back to a handler with unmade ones", p.compute(), 0);
        check.due("they are 0 there", p.locals(1), "");
        check.due("and stay here", p.locals(7), "103 1");
        check.due("only the raised thing", p.pile(1), "11");
        Program q = new Program(0).ops(op(13, 2), op(7, 0), op(23), op(24), op(23)).guard(2, 3, 3, 1);
        check.due("the handler's first frame", q.compute(), 0);
        check.due("0 there from the first on", q.locals(3), "");
    }

    private static void mostOfThePile() {
        highest("none", 0, new Program(0).ops(op(23)));
        highest("in a frame", 3, new Program(0).ops(op(1), op(0), op(23)));
        highest("behind the last op", 2, new Program(0).ops(op(1)));
        highest("with a jump to nowhere", 2, new Program(0).ops(op(0), op(0), op(11, 40), op(23)));
        highest("not behind an op that broke a rule", 8, new Program(0).ops(op(0), op(0), op(0), op(0), op(0), op(0), op(0), op(0), op(0)));
        highest("not behind an op after a guard's rule", 0, new Program(0).ops(op(1), op(23)).guard(0, 1, 39, 0));
        highest("a handler", 1, new Program(0).ops(op(23), op(24), op(23)).guard(0, 1, 1, 0));
        highest("not between", 2, new Program(0).ops(op(1), op(25), op(23)));
    }

    private static void highest(String name, int want, Program p) {
        p.compute();
        check.due("most of the pile: " + name, p.x.told(p.m, 2), want);
    }

    private static void wantedLocals() {
        wanted("none", 0, new Program(0).ops(op(0), op(24), op(23)));
        wanted("arguments", 3, new Program(0, 1, 2).ops(op(23)));
        wanted("an int", 8, new Program(0, 1).ops(op(0), op(3, 7), op(23)));
        wanted("a load below the arguments", 2, new Program(0, 1, 1).ops(op(2, 0), op(23)));
        wanted("a load of an int", 6, new Program(0).ops(op(2, 5), op(23)));
        wanted("a long", 8, new Program(0).ops(op(1), op(5, 6), op(23)));
        wanted("a load of a long", 6, new Program(0).ops(op(4, 4), op(23)));
        wanted("a reference", 4, new Program(0).ops(op(17), op(7, 3), op(23)));
        wanted("a load of a reference that is broken", 5, new Program(0).ops(op(6, 4), op(23)));
        wanted("not reached", 0, new Program(0).ops(op(23), op(3, 7)));
        wanted("with a frame, not gone through", 6, new Program(0).ops(op(0), op(11, 3), op(24), op(3, 5)));
        wanted("other ops' numbers", 0, new Program(0).ops(op(13, 6), op(12, 2), op(23)));
    }

    private static void wanted(String name, int want, Program p) {
        p.compute();
        check.due("wanted locals: " + name, p.x.told(p.m, 3), want);
    }

    private static void framesAreTold() {
        Program p = new Program(0, 1, 2).ops(op(4, 1), op(17), op(23), op(23));
        p.compute();
        check.due("height 0", p.x.height(p.m, 0), 0);
        check.due("height 1", p.x.height(p.m, 1), 2);
        check.due("height 2", p.x.height(p.m, 2), 3);
        check.due("height without a frame", p.x.height(p.m, 3), NONE);
        check.due("local without a frame", p.x.frame(p.m, 3, 0), NONE);
        check.due("pile without a frame", p.x.frame(p.m, 3, 8), NONE);
        int[] want = {1, 2, 3, 0, 0, 0, 0, 0, 2, 3, 4, NONE, NONE, NONE, NONE, NONE};
        for (int k = 0; k < want.length; k++) {
            check.due("frame(0, 2, " + k + ")", p.x.frame(p.m, 2, k), want[k]);
        }
        check.due("a place without op", p.x.frame(p.m, 4, 0), BAD);
        Program broken = new Program(0, 1).ops(op(0), op(24), op(24), op(23));
        check.due("broken", broken.compute(), 2);
        check.due("frames stay", broken.x.frame(0, 1, 8), 1);
        check.due("no frame behind", broken.x.height(0, 3), NONE);
    }

    /** THE WORK begins anew; what an earlier one left is no matter. */
    private static void laterWork() {
        Program p = new Program(0).ops(op(0), op(11, 4), op(0), op(24), op(24));
        ends("first", p, 2, 4, 5);
        ends("again", p, 2, 4, 5);
        Program q = new Program(0).ops(op(12, 1), op(23));
        ends("first", q, 0, NONE, 2);
        q.x.argument(q.m, 13);
        q.guard(1, 2, 1, 0);
        ends("with a guard", q, 8, 1, 2);
        check.due("with an argument", q.locals(1), "13");
        Program stale = new Program(0).ops(op(12, 3), op(23), op(23), op(0), op(11, 1));
        ends("1 is still to be looked at", stale, 5, 4, 3);
        stale.ops(op(23));
        ends("not any more before it is met", stale, 0, NONE, 5);
        Program lower = new Program(0).ops(op(1), op(23));
        highest("first", 2, lower);
        highest("less then", 0, lower.guard(0, 1, 39, 0));
        q.x.method(1);
        q.x.op(1, 0, 0, 0);
        q.x.op(1, 23, 0, 0);
        check.due("another method", q.x.compute(1), 0);
        check.due("has frames of its own", q.x.height(1, 1), 1);
        check.due("and leaves these", q.locals(1), "13");
    }
}
