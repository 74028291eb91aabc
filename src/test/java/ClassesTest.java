/** Promises 1 to 4: a new object, cls, fits, join. */
public final class ClassesTest extends Asked {
    public static void main(String[] args) {
        newObject();
        numbersOfClasses();
        fitting();
        joiningClasses();
        joiningKinds();
        check.end();
    }

    private static void newObject() {
        ChainFrames x = new ChainFrames();
        check.due("classes of a new object", x.count(0, 0), 2);
        check.due("methods of a new object", x.count(1, 0), 0);
        check.due("ops of method 0 of a new object", x.count(2, 0), BAD);
        check.due("1 below 0", x.fits(1, 0), 1);
        check.due("0 not below 1", x.fits(0, 1), 0);
        check.due("1 no face", x.cls(1), 2);
        check.due("0 no face", x.cls(0), 3);
    }

    private static void numbersOfClasses() {
        ChainFrames x = new ChainFrames();
        check.due("parent not there", x.cls(2), BAD);
        check.due("parent -2", x.cls(-2), BAD);
        check.due("least parent", x.cls(Integer.MIN_VALUE), BAD);
        check.due("greatest parent", x.cls(Integer.MAX_VALUE), BAD);
        check.due("refused changes nothing", x.count(0, 0), 2);
        check.due("face", x.cls(NONE), 2);
        check.due("below a face", x.cls(2), BAD);
        for (int c = 3; c < 16; c++) {
            check.due("class " + c, x.cls(c == 3 ? 1 : c - 1), c);
        }
        check.due("class 16", x.cls(0), FULL);
        check.due("face 16", x.cls(NONE), FULL);
        check.due("BAD before FULL, a face", x.cls(2), BAD);
        check.due("BAD before FULL, not there", x.cls(16), BAD);
        check.due("refused changes nothing", x.count(0, 0), 16);
        check.due("deep", x.fits(15, 1), 1);
        check.due("deep, the other way", x.fits(1, 15), 0);
    }

    /** 2 below 0, 3 below 2, 4 below 2, 5 below 3, 6 a FACE, 7 a FACE, 8 below 1. */
    private static ChainFrames family() {
        ChainFrames x = new ChainFrames();
        int[] parents = {0, 2, 2, 3, NONE, NONE, 1};
        for (int i = 0; i < parents.length; i++) {
            check.due("cls of the family", x.cls(parents[i]), i + 2);
        }
        return x;
    }

    private static void fitting() {
        ChainFrames x = family();
        int[][] right = {{0, 0}, {6, 6}, {5, 5}, {5, 3}, {5, 2}, {5, 0}, {4, 2}, {0, 6}, {5, 6}, {6, 7}, {7, 6}, {6, 0}, {8, 1}};
        int[][] wrong = {{2, 3}, {3, 4}, {4, 3}, {5, 4}, {6, 2}, {6, 1}, {0, 2}, {8, 2}, {1, 8}, {2, 1}};
        for (int[] pair : right) {
            check.due("fits(" + pair[0] + ", " + pair[1] + ")", x.fits(pair[0], pair[1]), 1);
        }
        for (int[] pair : wrong) {
            check.due("fits(" + pair[0] + ", " + pair[1] + ")", x.fits(pair[0], pair[1]), 0);
        }
        for (int bad : new int[] {-1, 9, 16, Integer.MIN_VALUE, Integer.MAX_VALUE}) {
            check.due("fits(" + bad + ", 0)", x.fits(bad, 0), BAD);
            check.due("fits(0, " + bad + ")", x.fits(0, bad), BAD);
            check.due("fits(" + bad + ", 6)", x.fits(bad, 6), BAD);
        }
    }

    private static void joinBoth(ChainFrames x, int k, int l, int want) {
        check.due("join(" + k + ", " + l + ")", x.join(k, l), want);
        check.due("join(" + l + ", " + k + ")", x.join(l, k), want);
    }

    private static void joiningClasses() {
        ChainFrames x = family();
        int[][] rows = {{5, 4, 2}, {3, 4, 2}, {5, 3, 3}, {5, 2, 2}, {5, 8, 0}, {8, 1, 1}, {6, 6, 6}, {6, 7, 0}, {6, 5, 0}, {6, 0, 0}, {0, 1, 0}, {2, 1, 0}};
        for (int[] row : rows) {
            joinBoth(x, 10 + row[0], 10 + row[1], 10 + row[2]);
            joinBoth(x, 40 + row[0], 40 + row[1], 40 + row[2]);
        }
    }

    private static void joiningKinds() {
        ChainFrames x = family();
        for (int k : new int[] {0, 1, 2, 3, 4, 5, 10, 18, 40, 48, 100, 139}) {
            joinBoth(x, k, k, k);
        }
        for (int reference : new int[] {5, 10, 16, 18, 40, 46, 48}) {
            joinBoth(x, 4, reference, reference);
            for (int other : new int[] {0, 1, 2, 3, 100, 139}) {
                joinBoth(x, reference, other, 0);
            }
        }
        for (int[] pair : new int[][] {{5, 40}, {5, 10}, {5, 13}, {5, 16}, {43, 13}, {43, 16}, {40, 18}}) {
            joinBoth(x, pair[0], pair[1], 10);
        }
        for (int[] pair : new int[][] {{0, 1}, {1, 2}, {2, 3}, {1, 3}, {0, 4}, {1, 4}, {2, 4}, {3, 4}, {4, 100}, {100, 101}, {1, 139}, {0, 100}}) {
            joinBoth(x, pair[0], pair[1], 0);
        }
        for (int bad : new int[] {-1, 6, 7, 8, 9, 19, 25, 26, 39, 49, 55, 56, 99, 140, Integer.MIN_VALUE, Integer.MAX_VALUE}) {
            joinBoth(x, bad, 0, BAD);
            joinBoth(x, bad, 10, BAD);
            joinBoth(x, bad, bad, BAD);
        }
    }
}
