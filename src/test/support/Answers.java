import java.util.function.IntUnaryOperator;

/** Counts and prints the calls whose answer is not the one that is due. */
final class Answers {
    private String part = "";
    private int wrong = 0;

    void part(String name) {
        part = name;
    }

    void due(String call, int got, int want) {
        if (got != want) {
            wrong++;
            System.out.println(part + ": " + call + " answered " + got + ", due is " + want);
        }
    }

    void due(String call, boolean got, boolean want) {
        due(call, got ? 1 : 0, want ? 1 : 0);
    }

    void due(String what, String got, String want) {
        if (!got.equals(want)) {
            wrong++;
            System.out.println(part + ": " + what + " shows\n  " + got + "\n  due is\n  " + want);
        }
    }

    /** For each value the same answer is due; in the text of the call _ stands for the value. */
    void each(String call, int want, IntUnaryOperator answer, int... values) {
        for (int value : values) {
            due(call.replace("_", Integer.toString(value)), answer.applyAsInt(value), want);
        }
    }

    /** What lies just outside lowest .. highest, and the farthest ints. */
    void outside(String call, int lowest, int highest, int want, IntUnaryOperator answer) {
        each(call, want, answer, lowest - 1, highest + 1, Integer.MIN_VALUE, Integer.MAX_VALUE);
    }

    int wrong() {
        return wrong;
    }

    void finish() {
        System.out.println(wrong == 0 ? "all answers are as due" : wrong + " answers are not as due");
        if (wrong != 0) {
            System.exit(1);
        }
    }
}
