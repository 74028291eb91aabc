/** Promise 13: form. */
public final class FormsTest extends Asked {
    public static void main(String[] args) {
        refused();
        whatIsTold();
        same();
        less();
        more();
        unlike();
        byTheOneBefore();
        byTheBeginning();
        check.end();
    }

    private static void refused() {
        Program broken = new Program(0).ops(op(12, 1), op(24));
        check.due("broken", broken.compute(), 2);
        check.due("a rule was broken", broken.x.form(0, 1), NO);
        check.due("BAD before NO", broken.x.form(0, 2), BAD);
        Program p = new Program(0).ops(op(12, 1), op(23));
        check.due("no work", p.x.form(0, 1), NO);
        p.compute();
        for (int bad : new int[] {-1, 2, 40, Integer.MIN_VALUE, Integer.MAX_VALUE}) {
            check.due("form(0, " + bad + ")", p.x.form(0, bad), BAD);
        }
        for (int bad : new int[] {-1, 1, 6, Integer.MIN_VALUE, Integer.MAX_VALUE}) {
            check.due("form(" + bad + ", 0)", p.x.form(bad, 0), BAD);
        }
    }

    private static void whatIsTold() {
        Program p = new Program(0).ops(op(12, 1), op(23), op(12, 0)).guard(2, 3, 0, 0);
        form("a jump", p, 1, 0);
        form("a jump, a guard of a place without a frame", p, 0, NONE);
        form("no frame", p, 2, NONE);
        Program branch = new Program(0).ops(op(0), op(11, 3), op(23), op(23));
        form("a branch", branch, 3, 0);
        form("behind a branch", branch, 2, NONE);
        Program handler = new Program(0).ops(op(0), op(23), op(23), op(23)).guard(0, 1, 2, 0).guard(1, 3, 3, 0);
        form("a handler", handler, 2, 1);
        form("a handler, of one place with a frame", handler, 3, 1);
        Program wide = new Program(0).ops(op(12, 2), op(23), op(23), op(23)).guard(1, 3, 3, 0);
        form("a guard whose first place has no frame", wide, 3, 1);
        wide.x.method(0);
        wide.x.op(1, 0, 0, 0);
        wide.x.op(1, 23, 0, 0);
        wide.x.op(1, 23, 0, 0);
        wide.x.compute(1);
        check.due("of the first method", wide.x.form(0, 2), 0);
        check.due("of another method", wide.x.form(1, 2), NONE);
    }

    private static void same() {
        jumped("same", 0, of(1, 2, 12));
        jumped("same, nothing", 0, of());
        jumped("same, one int", 1, of(1, 2, 12), op(0));
        jumped("same, one long", 1, of(1, 2, 12), op(1));
        jumped("same, unmade", 1, of(), op(13, 2));
        jumped("same, two", 8, of(1), op(0), op(0));
        jumped("same, a long and one", 8, of(1), op(1), op(0));
        jumped("same, two longs", 8, of(1), op(1), op(1));
    }

    private static void less() {
        form("one less", losing(of(1, 1, 1, 1), 3), 4, 2);
        form("two less", losing(of(1, 1, 1, 1), 3, 2), 6, 3);
        form("three less", losing(of(1, 1, 1, 1), 3, 2, 1), 8, 4);
        form("four less", losing(of(1, 1, 1, 1), 3, 2, 1, 0), 10, 8);
        form("one long less", losing(of(1, 2), 1), 4, 2);
        form("three longs less", losing(of(2, 2, 2), 0, 2, 4), 8, 4);
        form("all", losing(of(1), 0), 4, 2);
        form("between", losing(of(1, 1, 1), 1), 4, 8);
        form("a long between", losing(of(2, 1), 0), 4, 8);
        Program pile = new Program(0, 1, 1).ops(op(0), op(11, 6), op(17), op(7, 1), op(0), op(12, 7), op(0), op(23));
        form("one less, a pile", pile, 7, 8);
        Program zeros = new Program(0, 1, 1, 1).ops(op(0), op(11, 4), op(17), op(7, 1), op(0), op(11, 8), op(17), op(7, 2), op(23));
        form("a 0 between", zeros, 4, 8);
        form("a 0 between goes with the end", zeros, 8, 3);
    }

    private static void more() {
        jumped("one more", 5, of(1), op(0), op(3, 1));
        jumped("two more", 6, of(1), op(0), op(3, 1), op(0), op(3, 2));
        jumped("three more", 7, of(1), op(0), op(3, 1), op(0), op(3, 2), op(0), op(3, 3));
        jumped("four more", 8, of(1), op(0), op(3, 1), op(0), op(3, 2), op(0), op(3, 3), op(0), op(3, 4));
        jumped("one long more", 5, of(), op(1), op(5, 0));
        jumped("three longs more", 7, of(2), op(1), op(5, 2), op(1), op(5, 4), op(1), op(5, 6));
        jumped("a 0 and one", 6, of(1), op(0), op(3, 2));
        jumped("two 0s and one", 7, of(1), op(0), op(3, 3));
        jumped("three 0s and one", 8, of(1), op(0), op(3, 4));
        jumped("one more, a pile", 8, of(1), op(0), op(3, 1), op(0));
    }

    private static void unlike() {
        jumped("another kind", 8, of(1, 1), op(17), op(7, 0));
        jumped("another kind, one more", 8, of(1), op(17), op(7, 0), op(0), op(3, 1));
        jumped("a class above", 8, of(13), op(17), op(18, 2), op(7, 0));
        jumped("the same again", 0, of(13), op(17), op(18, 3), op(7, 0));
        jumped("a half is gone", 8, of(2), op(0), op(3, 1));
        jumped("another kind, a pile", 8, of(1), op(17), op(7, 0), op(0));
    }

    private static void byTheOneBefore() {
        Program p = new Program(0, 1).ops(op(0), op(3, 1), op(12, 3), op(0), op(3, 2), op(12, 6), op(23));
        form("the first", p, 3, 5);
        form("the second by the first", p, 6, 5);
        Program crossed = new Program(0, 1).ops(op(12, 5), op(0), op(3, 3), op(12, 8), op(23), op(0), op(3, 1), op(12, 1), op(23));
        form("before it by place: 1", crossed, 1, 5);
        form("before it by place: 5", crossed, 5, 2);
        form("before it by place: 8", crossed, 8, 7);
    }

    /** Place 0 is met by a loop; it is told by ARGUMENTS, not by its own FRAME. */
    private static void byTheBeginning() {
        Program p = new Program(0, 1).ops(op(17), op(7, 0), op(12, 0));
        form("a local is gone at 0", p, 0, 2);
        Program q = new Program(0, 13, 1).ops(op(0), op(11, 6), op(17), op(18, 4), op(7, 0), op(12, 0), op(23));
        form("a class above at 0", q, 0, 8);
        form("the same as at 0", q, 6, 0);
    }
}
