/** Promise 1: what each call answers on a new object, each on one of its own. */
public final class NewObjectBoundsTest {
    private static final int NONE = DeclarativeRows.NONE;
    private static final int MIN = Integer.MIN_VALUE;
    private static final int MAX = Integer.MAX_VALUE;
    private static final Answers a = new Answers();

    public static void main(String[] args) {
        noExceptions();
        noChecks();
        noUses();
        nothingWasRaised();
        noneRuns();
        noFileHasAMode();
        objectsShareNothing();
        a.finish();
    }

    private static DeclarativeRows made() {
        return new DeclarativeRows();
    }

    private static void noExceptions() {
        a.part("Promise 1: no exceptions");
        a.due("count(0)", made().count(0), 0);
        a.due("exception(1, 0)", made().exception(1, 0), 1);
        a.each("exception(_, 0)", -2, level -> made().exception(level, 0), 2, 3);
        a.each("use(0, _)", -2, e -> made().use(0, e), MIN, -1, 0, 1, 60, MAX);
        a.each("check(_, 0, true)", -2, e -> made().check(e, 0, true), MIN, -1, 0, 1, 60, MAX);
        a.each("raise(_, 0)", -2, e -> made().raise(e, 0), MIN, -1, 0, 1, 60, MAX);
        a.each("nested(_)", -2, e -> made().nested(e), MIN, -1, 0, 1, 60, MAX);
    }

    private static void noChecks() {
        a.part("Promise 1: no checks");
        a.due("count(1)", made().count(1), 0);
        DeclarativeRows x = made();
        x.exception(1, 0);
        a.due("check(1, 0, true)", x.check(1, 0, true), 1);
    }

    private static void noUses() {
        a.part("Promise 1: no uses");
        a.due("count(2)", made().count(2), 0);
        a.due("use(1, 0)", made().use(1, 0), 1);
        a.due("use(2, 0)", made().use(2, 0), 1);
    }

    private static void nothingWasRaised() {
        a.part("Promise 1: nothing was raised");
        a.due("count(4)", made().count(4), 0);
        a.due("count(5)", made().count(5), 0);
        a.each("last(_)", NONE, what -> made().last(what), MIN, -1, 0, 1, 2, 3, 4, MAX);
        a.each("propagate(_)", 0, program -> made().propagate(program), 0, 1, 99);
        a.outside("propagate(_)", 0, 99, -4, program -> made().propagate(program));
        a.due("ends()", made().ends(), false);
    }

    private static void noneRuns() {
        a.part("Promise 1: none runs");
        a.due("count(3)", made().count(3), 0);
        a.each("taken(_)", 0, i -> made().taken(i), MIN, -1, 0, 1, 9, 10, MAX);
        a.each("resume(_, 0)", 0, use -> made().resume(use, 0), MIN, -1, 0, 1, 30, MAX);
        a.each("resume(0, _)", 0, to -> made().resume(0, to), 0, 1, 9999);
        a.outside("resume(1, _)", 0, 9999, -4, to -> made().resume(1, to));
    }

    private static void noFileHasAMode() {
        a.part("Promise 1: no file has a mode");
        for (int file = 0; file < 20; file++) {
            DeclarativeRows x = made();
            for (int mode = 0; mode < 4; mode++) {
                x.use(2, mode);
            }
            a.due("status(" + file + ", 10)", x.status(file, 10), 0);
        }
    }

    private static void objectsShareNothing() {
        a.part("Promise 1: another object stays as it is");
        DeclarativeRows x = made();
        DeclarativeRows full = Rows.full();
        a.due("count(0) of the other", full.count(0), 60);
        Rows.endedByEleventh();
        for (int what = 0; what <= 5; what++) {
            a.due("count(" + what + ")", x.count(what), 0);
        }
        a.due("ends()", x.ends(), false);
        a.due("last(0)", x.last(0), NONE);
        a.due("exception(2, 50)", x.exception(2, 50), -2);
    }
}
