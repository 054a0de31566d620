/** Compares answers with those that are due, and ends a test with exit code 1 if one differs. */
final class Due {
    private int checked;
    private int wrong;

    void answer(String call, long got, long want) {
        checked++;
        if (got != want) {
            wrong++;
            System.out.println(call + " answered " + got + ", due is " + want);
        }
    }

    void holds(String what, boolean held) {
        checked++;
        if (!held) {
            wrong++;
            System.out.println(what + " does not hold");
        }
    }

    boolean anyWrong() {
        return wrong > 0;
    }

    void end(String test) {
        System.out.println(test + ": " + checked + " checked, " + wrong + " wrong");
        if (wrong > 0 || checked == 0) {
            System.exit(1);
        }
    }
}
