/** Counts the answers that are not as due, and ends the program with 1 if there are any. */
final class Check {
    private int right = 0;
    private int wrong = 0;
    private String about = "";

    /** What the next answers are about: told with those that are not as due. */
    void about(String what) {
        about = what.isEmpty() ? "" : what + ": ";
    }

    int asked() {
        return right + wrong;
    }

    void due(String call, int got, int want) {
        due(call, Integer.toString(got), Integer.toString(want));
    }

    void due(String call, String got, String want) {
        if (got.equals(want)) {
            right++;
        } else {
            wrong++;
            System.out.println(about + call + " answered " + got + ", due is " + want);
        }
    }

    void end() {
        System.out.println(right + " answers are as due, " + wrong + " are not");
        if (wrong != 0) {
            System.exit(1);
        }
    }
}
