/** Counts the answers that are not the ones that are due. */
final class Check {
    private static final int MAX_SHOWN = 50;
    private static final int MAX_NUMBER = 41;
    private final int[] counts = new int[MAX_NUMBER + 1];
    private int number = 0;
    private String promise = "";
    private int checked = 0;
    private int wrong = 0;

    /** What is checked from now on belongs to this promise, or to none of them (0). */
    void promise(int newNumber, String name) {
        number = newNumber;
        promise = "promise " + newNumber + ", " + name;
    }

    int count() {
        return checked;
    }

    int countOf(int promiseNumber) {
        return counts[promiseNumber];
    }

    void due(String call, long got, long want) {
        countOne();
        if (got != want) {
            fail(call + " answered " + got + ", due is " + want);
        }
    }

    void holds(String what, boolean holds) {
        countOne();
        if (!holds) {
            fail(what + " does not hold");
        }
    }

    private void countOne() {
        checked++;
        counts[number]++;
    }

    private void fail(String message) {
        wrong++;
        if (wrong <= MAX_SHOWN) {
            System.out.println(promise + ": " + message);
        }
    }

    /** Ends the program with exit code 1 if an answer was wrong, and says nothing otherwise. */
    void endIfWrong() {
        if (wrong != 0) {
            end();
        }
    }

    /** Ends the program with exit code 1 if an answer was wrong. */
    void end() {
        System.out.println(checked + " answers checked, " + wrong + " wrong");
        if (wrong != 0) {
            System.exit(1);
        }
    }
}
