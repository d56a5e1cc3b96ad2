/** Counts the answers that are not the ones that are due. */
final class Check {
    private static final int MAX_SHOWN = 50;
    private String promise = "";
    private int checked = 0;
    private int wrong = 0;

    void promise(int number, String name) {
        promise = "promise " + number + ", " + name;
    }

    int count() {
        return checked;
    }

    void due(String call, long got, long want) {
        checked++;
        if (got != want) {
            fail(call + " answered " + got + ", due is " + want);
        }
    }

    void holds(String what, boolean holds) {
        checked++;
        if (!holds) {
            fail(what + " does not hold");
        }
    }

    private void fail(String message) {
        wrong++;
        if (wrong <= MAX_SHOWN) {
            System.out.println(promise + ": " + message);
        }
    }

    /** Ends the program with exit code 1 if an answer was wrong, and says nothing otherwise. */
    void endIfWrong() {
        if (wrong != 0) {
            end();
        }
    }

    /** Ends the program with exit code 1 if an answer was wrong. */
    void end() {
        System.out.println(checked + " answers checked, " + wrong + " wrong");
        if (wrong != 0) {
            System.exit(1);
        }
    }
}
