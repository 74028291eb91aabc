/** Promise 9, the OPS one by one: what they take, lay, put, and the RULES 1 to 4 that they break. */
public final class OpsTest extends Asked {
    public static void main(String[] args) {
        laying();
        localsOfInts();
        localsOfLongs();
        localsOfReferences();
        halvesOfLongs();
        sums();
        unmade();
        calls();
        rows();
        storingInRows();
        leaving();
        dropping();
        tooHigh();
        check.end();
    }

    private static void laying() {
        leaves(" | 1", of(), op(0));
        leaves(" | 2 3", of(), op(1));
        leaves(" | 4", of(), op(17));
        leaves(" | 1 1", of(), op(0), op(14));
        leaves("12 | 12 12", of(12), op(6, 0), op(14));
        leaves(" | 100 100", of(), op(13, 2), op(14));
        leaves(" | 1 101", of(), op(0), op(13, 2));
        breaks(2, of(), op(14));
        breaks(3, of(), op(1), op(14));
    }

    private static void localsOfInts() {
        leaves("1 | 1", of(1), op(2, 0));
        leaves("0 0 0 0 0 0 0 1 | ", of(), op(0), op(3, 7));
        leaves("1 | ", of(12), op(0), op(3, 0));
        breaks(4, of(), op(2, 0));
        breaks(4, of(2), op(2, 0));
        breaks(4, of(2), op(2, 1));
        breaks(4, of(12), op(2, 0));
        breaks(2, of(), op(3, 0));
        breaks(3, of(), op(17), op(3, 0));
        breaks(3, of(), op(1), op(3, 0));
        breaks(3, of(), op(13, 2), op(3, 0));
    }

    private static void localsOfLongs() {
        leaves("1 2 3 | 2 3", of(1, 2), op(4, 1));
        leaves("0 0 0 0 0 0 2 3 | ", of(), op(1), op(5, 6));
        breaks(4, of(1, 2), op(4, 0));
        breaks(4, of(1, 2), op(4, 2));
        breaks(4, of(1, 1), op(4, 0));
        breaks(4, of(2, 2), op(4, 1));
        breaks(2, of(), op(5, 0));
        breaks(2, of(), op(0), op(5, 0));
        breaks(3, of(), op(0), op(0), op(5, 0));
        breaks(3, of(), op(1), op(0), op(5, 0));
    }

    private static void localsOfReferences() {
        leaves("5 | 5", of(5), op(6, 0));
        leaves("45 | 45", of(45), op(6, 0));
        leaves("4 | 4", of(), op(17), op(7, 0), op(6, 0));
        leaves("0 100 | 100", of(), op(13, 2), op(7, 1), op(6, 1));
        leaves("12 0 0 0 0 0 0 12 | ", of(12), op(6, 0), op(7, 7));
        breaks(4, of(), op(6, 0));
        breaks(4, of(1), op(6, 0));
        breaks(4, of(2), op(6, 0));
        breaks(4, of(2), op(6, 1));
        breaks(2, of(), op(7, 0));
        breaks(3, of(), op(0), op(7, 0));
        breaks(3, of(), op(1), op(7, 0));
    }

    private static void halvesOfLongs() {
        leaves("1 | ", of(2), op(0), op(3, 0));
        leaves("0 1 | ", of(2), op(0), op(3, 1));
        leaves("4 | ", of(2), op(17), op(7, 0));
        leaves("0 4 | ", of(2), op(17), op(7, 1));
        leaves("0 2 3 | ", of(2), op(1), op(5, 1));
        leaves("0 2 3 | ", of(2, 2), op(1), op(5, 1));
        leaves("2 3 | ", of(1, 2), op(1), op(5, 0));
        leaves("2 3 2 3 | ", of(2, 2), op(1), op(5, 2));
        leaves("2 3 | ", of(2), op(1), op(5, 0));
        leaves("0 1 2 3 | ", of(2, 2), op(0), op(3, 1));
        leaves("2 3 1 | ", of(2, 2), op(0), op(3, 2));
        leaves("0 0 0 0 0 0 0 1 | ", of(), op(1), op(5, 6), op(0), op(3, 7));
    }

    private static void sums() {
        leaves(" | 1", of(), op(0), op(0), op(8));
        leaves(" | 2 3", of(), op(1), op(1), op(9));
        leaves(" | 2 3", of(), op(0), op(10));
        breaks(2, of(), op(8));
        breaks(2, of(), op(0), op(8));
        breaks(3, of(), op(17), op(8));
        breaks(3, of(), op(17), op(0), op(8));
        breaks(3, of(), op(1), op(8));
        breaks(2, of(), op(9));
        breaks(2, of(), op(0), op(9));
        breaks(2, of(), op(1), op(9));
        breaks(2, of(), op(17), op(1), op(9));
        breaks(3, of(), op(0), op(0), op(1), op(9));
        breaks(3, of(), op(1), op(0), op(9));
        breaks(2, of(), op(10));
        breaks(3, of(), op(17), op(10));
        breaks(2, of(), op(11, 0));
        breaks(3, of(), op(1), op(11, 0));
    }

    private static void unmade() {
        leaves(" | ", of(), op(13, 2), op(15, 2));
        leaves(" | 12", of(), op(13, 2), op(14), op(15, 2));
        leaves(" | 15", of(), op(13, 5), op(14), op(15, 5));
        leaves("12 | 12", of(), op(13, 2), op(14), op(7, 0), op(14), op(15, 2));
        leaves("0 0 0 0 0 0 0 12 | 12 12", of(), op(13, 2), op(14), op(14), op(14), op(7, 7), op(15, 2));
        leaves(" | 100", of(), op(13, 2), op(13, 2), op(15, 2));
        leaves("100 12 | ", of(), op(13, 2), op(7, 0), op(13, 2), op(14), op(7, 1), op(15, 2));
        breaks(2, of(), op(15, 2));
        breaks(3, of(), op(0), op(15, 2));
        breaks(3, of(), op(17), op(15, 2));
        breaks(3, of(12), op(6, 0), op(15, 2));
        breaks(3, of(), op(13, 2), op(15, 3));
        breaks(3, of(), op(13, 3), op(15, 2));
        breaks(3, of(), op(13, 2), op(15, 0));
        breaks(3, of(), op(13, 2), op(14), op(15, 2), op(15, 2));
        breaks(3, of(), op(13, 2), op(16, 2, 0));
        breaks(3, of(), op(13, 2), op(16, 0, 0));
        breaks(3, of(), op(13, 2), op(18, 2));
        breaks(3, of(), op(13, 1), op(22));
    }

    private static void calls() {
        leaves("12 | ", of(12), op(6, 0), op(16, 2, 0));
        leaves("13 | 1", of(13), op(6, 0), op(16, 2, 1));
        leaves("13 | 2 3", of(13), op(6, 0), op(16, 2, 2));
        leaves("12 | 5", of(12), op(6, 0), op(16, 5, 5));
        leaves("42 | ", of(42), op(6, 0), op(16, 0, 0));
        leaves("40 | ", of(40), op(6, 0), op(16, 0, 0));
        leaves("5 | ", of(5), op(6, 0), op(16, 0, 0));
        leaves("15 | ", of(15), op(6, 0), op(16, 0, 0));
        leaves(" | 45", of(), op(17), op(16, 3, 45));
        breaks(2, of(), op(16, 0, 0));
        breaks(3, of(), op(0), op(16, 0, 0));
        breaks(3, of(), op(1), op(16, 0, 0));
        breaks(3, of(12), op(6, 0), op(16, 3, 0));
        breaks(3, of(15), op(6, 0), op(16, 2, 0));
        breaks(3, of(42), op(6, 0), op(16, 5, 0));
        breaks(3, of(42), op(6, 0), op(16, 2, 0));
        breaks(3, of(5), op(6, 0), op(16, 5, 0));
        leaves("5 | 13", of(5), op(6, 0), op(18, 3));
        leaves("42 | 13", of(42), op(6, 0), op(18, 3));
        leaves("14 | 13", of(14), op(6, 0), op(18, 3));
        leaves(" | 10", of(), op(17), op(18, 0));
        breaks(2, of(), op(18, 0));
        breaks(3, of(), op(0), op(18, 0));
        breaks(3, of(), op(1), op(18, 0));
    }

    private static void rows() {
        leaves(" | 5", of(), op(0), op(19, NONE));
        leaves(" | 42", of(), op(0), op(19, 2));
        leaves(" | 40", of(), op(0), op(19, 0));
        breaks(2, of(), op(19, 2));
        breaks(3, of(), op(17), op(19, 2));
        leaves("5 | 1", of(5), op(6, 0), op(0), op(20));
        leaves("43 | 13", of(43), op(6, 0), op(0), op(20));
        leaves("45 | 15", of(45), op(6, 0), op(0), op(20));
        leaves(" | 4", of(), op(17), op(0), op(20));
        breaks(2, of(), op(20));
        breaks(2, of(), op(0), op(20));
        breaks(3, of(), op(17), op(20));
        breaks(3, of(), op(17), op(17), op(20));
        breaks(3, of(), op(0), op(0), op(20));
        breaks(3, of(), op(1), op(0), op(20));
        breaks(3, of(10), op(6, 0), op(0), op(20));
        breaks(3, of(), op(13, 2), op(0), op(20));
    }

    private static void storingInRows() {
        leaves("5 | ", of(5), op(6, 0), op(0), op(0), op(21));
        leaves("42 12 | ", of(42, 12), op(6, 0), op(0), op(6, 1), op(21));
        leaves("43 16 | ", of(43, 16), op(6, 0), op(0), op(6, 1), op(21));
        leaves("42 5 | ", of(42, 5), op(6, 0), op(0), op(6, 1), op(21));
        leaves("42 | ", of(42), op(6, 0), op(0), op(17), op(21));
        leaves(" | ", of(), op(17), op(0), op(0), op(21));
        leaves(" | ", of(), op(17), op(0), op(17), op(21));
        breaks(2, of(), op(21));
        breaks(2, of(), op(0), op(21));
        breaks(2, of(), op(0), op(0), op(21));
        breaks(3, of(), op(17), op(17), op(21));
        breaks(3, of(), op(1), op(21));
        breaks(3, of(), op(13, 2), op(21));
        breaks(3, of(), op(17), op(17), op(0), op(21));
        breaks(3, of(42), op(6, 0), op(0), op(0), op(21));
        breaks(3, of(5), op(6, 0), op(0), op(17), op(21));
        breaks(3, of(10), op(6, 0), op(0), op(17), op(21));
        breaks(3, of(), op(0), op(0), op(0), op(21));
        breaks(3, of(), op(13, 2), op(0), op(17), op(21));
    }

    private static void leaving() {
        leavesMethod(0, of(), op(23));
        leavesMethod(0, of(), op(0), op(23));
        leavesMethod(1, of(), op(17), op(0), op(23));
        leavesMethod(2, of(), op(1), op(23));
        leavesMethod(12, of(13), op(6, 0), op(23));
        leavesMethod(12, of(), op(17), op(23));
        leavesMethod(5, of(), op(17), op(23));
        leavesMethod(10, of(5), op(6, 0), op(23));
        leavesMethod(15, of(12), op(6, 0), op(23));
        leavesMethod(42, of(43), op(6, 0), op(23));
        leavesMethod(45, of(42), op(6, 0), op(23));
        leavesMethod(0, of(), op(17), op(22, 99));
        leavesMethod(0, of(11), op(6, 0), op(22));
        leavesMethod(1, of(11), op(6, 0), op(22));
        leavesMethod(0, of(16), op(6, 0), op(22));
        breaksWithResult(1, 2, of(), op(23));
        breaksWithResult(1, 3, of(), op(17), op(23));
        breaksWithResult(2, 2, of(), op(0), op(23));
        breaksWithResult(2, 3, of(), op(0), op(0), op(23));
        breaksWithResult(12, 3, of(10), op(6, 0), op(23));
        breaksWithResult(12, 3, of(), op(13, 2), op(23));
        breaksWithResult(15, 3, of(42), op(6, 0), op(23));
        breaksWithResult(42, 3, of(5), op(6, 0), op(23));
        breaksWithResult(42, 3, of(45), op(6, 0), op(23));
        breaksWithResult(43, 3, of(42), op(6, 0), op(23));
        breaksWithResult(5, 3, of(40), op(6, 0), op(23));
        breaks(2, of(), op(22));
        breaks(3, of(), op(0), op(22));
        breaks(3, of(10), op(6, 0), op(22));
        breaks(3, of(15), op(6, 0), op(22));
        breaks(3, of(41), op(6, 0), op(22));
    }

    private static void dropping() {
        leaves(" | 1", of(), op(0), op(0), op(24));
        leaves(" | ", of(), op(17), op(24));
        leaves(" | ", of(), op(13, 2), op(24));
        leaves(" | 1", of(), op(0), op(1), op(25));
        breaks(2, of(), op(24));
        breaks(3, of(), op(1), op(24));
        breaks(2, of(), op(25));
        breaks(2, of(), op(0), op(25));
        breaks(3, of(), op(0), op(0), op(25));
        breaks(3, of(), op(1), op(17), op(25));
    }

    private static void tooHigh() {
        leaves(" | 1 1 1 1 1 1 1 1", of(), above(7, 0));
        leaves(" | 1 1 1 1 1 1 2 3", of(), above(6, 1));
        leaves(" | 1 1 1 1 1 1 2 3", of(), above(7, 10));
        leaves(" | 1 1 1 1 1 1 1", of(), above(8, 8));
        leaves(" | 1 1 1 1 1 1 1 5", of(), above(8, 19, NONE));
        leaves("1 2 3 | 1 1 1 1 1 1 2 3", of(1, 2), above(6, 4, 1));
        breaks(1, of(), above(8, 0));
        breaks(1, of(), above(7, 1));
        breaks(1, of(), above(8, 1));
        breaks(1, of(), above(8, 10));
        breaks(1, of(), above(8, 13, 2));
        breaks(1, of(), above(8, 14));
        breaks(1, of(), above(8, 17));
        breaks(1, of(1), above(8, 2, 0));
        breaks(1, of(2), above(7, 4, 0));
        breaks(1, of(12), above(8, 6, 0));
        breaks(4, of(12), above(8, 2, 0));
        breaks(4, of(12), above(8, 4, 0));
        breaks(4, of(1), above(8, 6, 0));
        breaks(3, of(), above(8, 16, 0, 2));
        int[][] call = above(8, 16, 0, 2);
        call[7] = op(17);
        breaks(1, of(), call);
    }
}
