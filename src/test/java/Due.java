/** Compares answers with those that are due, and ends a test with exit code 1 if one was wrong. */
final class Due {
    private int wrong = 0;
    private int asked = 0;

    void is(String call, long got, long want) {
        asked++;
        if (got != want) {
            tellWrong(call, String.valueOf(got), String.valueOf(want));
        }
    }

    void is(String what, String got, String want) {
        asked++;
        if (!got.equals(want)) {
            tellWrong(what, "'" + got + "'", "'" + want + "'");
        }
    }

    private void tellWrong(String what, String got, String want) {
        wrong++;
        if (wrong <= 50) {
            System.out.println(what + " answered " + got + ", due is " + want);
        }
    }

    void fail(String what) {
        asked++;
        wrong++;
        System.out.println(what);
    }

    int wrong() {
        return wrong;
    }

    int asked() {
        return asked;
    }

    void end() {
        System.out.println(asked + " answers, " + wrong + " not as due");
        if (wrong != 0) {
            System.exit(1);
        }
    }
}
