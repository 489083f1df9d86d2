/** One method for each promise of the document: ordinary inputs, edges, and wrong inputs. */
public final class PromisesTest {
    private static final int MIN = Integer.MIN_VALUE;
    private static final int MAX = Integer.MAX_VALUE;
    private static final int NONE = DeclarativeRows.NONE;
    private static final Answers a = new Answers();

    public static void main(String[] args) {
        newObject();
        exception();
        exceptionIsBelowTheLatest();
        exceptionLimit();
        use();
        useLimit();
        check();
        checkLimit();
        raiseWrong();
        raiseChecked();
        raiseTaker();
        raiseWithoutTaker();
        raiseBarred();
        raiseEleventh();
        taken();
        resume();
        resumeWrong();
        nested();
        propagate();
        last();
        statusWrong();
        statusTaker();
        statusEnds();
        mode();
        ends();
        count();
        a.finish();
    }

    private static void newObject() {
        a.part("promise 1");
        DeclarativeRows x = new DeclarativeRows();
        for (int what = 0; what <= 5; what++) {
            a.due("count(" + what + ")", x.count(what), 0);
        }
        for (int what = 0; what <= 3; what++) {
            a.due("last(" + what + ")", x.last(what), NONE);
        }
        a.due("taken(0)", x.taken(0), 0);
        a.due("ends()", x.ends(), false);
        a.due("propagate(0)", x.propagate(0), 0);
        a.due("resume(0, 0)", x.resume(0, 0), 0);
        a.due("resume(1, 1)", x.resume(1, 1), 0);
        a.due("nested(1)", x.nested(1), -2);
        a.due("raise(1, 0)", x.raise(1, 0), -2);
        a.due("check(1, 0, true)", x.check(1, 0, true), -2);
        a.due("use(0, 1)", x.use(0, 1), -2);
        a.due("NONE", DeclarativeRows.NONE, -1);
    }

    private static void exception() {
        a.part("promise 2");
        DeclarativeRows x = new DeclarativeRows();
        a.due("exception(2, 0) first", x.exception(2, 0), -2);
        a.due("exception(3, 0) first", x.exception(3, 0), -2);
        a.due("exception(2, 100)", x.exception(2, 100), -4);
        a.due("exception(0, 0)", x.exception(0, 0), -4);
        a.due("exception(-1, 0)", x.exception(-1, 0), -4);
        a.due("exception(4, 0)", x.exception(4, 0), -4);
        a.due("exception(MIN, 0)", x.exception(MIN, 0), -4);
        a.due("exception(MAX, 0)", x.exception(MAX, 0), -4);
        a.due("exception(1, -1)", x.exception(1, -1), -4);
        a.due("exception(1, 100)", x.exception(1, 100), -4);
        a.due("exception(1, MIN)", x.exception(1, MIN), -4);
        a.due("exception(1, MAX)", x.exception(1, MAX), -4);
        a.due("count(0)", x.count(0), 0);
        a.due("exception(1, 0)", x.exception(1, 0), 1);
        a.due("exception(3, 0) without level 2", x.exception(3, 0), -2);
        a.due("exception(1, 99)", x.exception(1, 99), 2);
        a.due("exception(2, 99)", x.exception(2, 99), 3);
        a.due("exception(3, 99)", x.exception(3, 99), 4);
        a.due("exception(3, 99) again", x.exception(3, 99), 5);
        a.due("count(0)", x.count(0), 5);
    }

    private static void exceptionIsBelowTheLatest() {
        a.part("promise 2, below");
        DeclarativeRows x = new DeclarativeRows();
        x.exception(1, 90);
        x.exception(2, 90);
        x.exception(1, 90);
        a.due("exception(3, 90)", x.exception(3, 90), 4);
        a.due("exception(2, 90)", x.exception(2, 90), 5);
        a.due("exception(3, 90)", x.exception(3, 90), 6);
        x.check(1, 0, true);
        x.use(0, 1);
        x.use(0, 3);
        a.due("raise(4, 0): below 2, that is below 1", x.raise(4, 0), 1);
        a.due("raise(5, 0): below 3, not checked", x.raise(5, 0), -1);
        x.check(3, 0, true);
        a.due("raise(6, 0): below 5, that is below 3", x.raise(6, 0), 2);
    }

    private static void exceptionLimit() {
        a.part("promise 2, limit");
        DeclarativeRows x = new DeclarativeRows();
        for (int i = 1; i <= 60; i++) {
            a.due("exception(1, 77)", x.exception(1, 77), i);
        }
        a.due("61st", x.exception(1, 77), NONE);
        a.due("61st, level 2", x.exception(2, 77), NONE);
        a.due("61st, level 3 without level 2", x.exception(3, 77), -2);
        a.due("61st, wrong name", x.exception(1, 100), -4);
        a.due("count(0)", x.count(0), 60);
        a.due("use(0, 60)", x.use(0, 60), 1);
        a.due("use(0, 61)", x.use(0, 61), -2);
        x.check(60, 0, true);
        a.due("raise(60, 0)", x.raise(60, 0), 1);
    }

    private static void use() {
        a.part("promise 3");
        DeclarativeRows x = new DeclarativeRows();
        x.exception(1, 0);
        a.due("use(-1, 0)", x.use(-1, 0), -4);
        a.due("use(3, 0)", x.use(3, 0), -4);
        a.due("use(MIN, 1)", x.use(MIN, 1), -4);
        a.due("use(MAX, 1)", x.use(MAX, 1), -4);
        a.due("use(0, 0)", x.use(0, 0), -2);
        a.due("use(0, 2)", x.use(0, 2), -2);
        a.due("use(0, -1)", x.use(0, -1), -2);
        a.due("use(0, MIN)", x.use(0, MIN), -2);
        a.due("use(0, MAX)", x.use(0, MAX), -2);
        a.due("use(1, -1)", x.use(1, -1), -4);
        a.due("use(1, 20)", x.use(1, 20), -4);
        a.due("use(1, MIN)", x.use(1, MIN), -4);
        a.due("use(2, -1)", x.use(2, -1), -4);
        a.due("use(2, 4)", x.use(2, 4), -4);
        a.due("use(2, MAX)", x.use(2, MAX), -4);
        a.due("count(2)", x.count(2), 0);
        a.due("use(0, 1)", x.use(0, 1), 1);
        a.due("use(0, 1) again", x.use(0, 1), 2);
        a.due("use(1, 0)", x.use(1, 0), 3);
        a.due("use(1, 19)", x.use(1, 19), 4);
        a.due("use(2, 0)", x.use(2, 0), 5);
        a.due("use(2, 3)", x.use(2, 3), 6);
        a.due("count(2)", x.count(2), 6);
    }

    private static void useLimit() {
        a.part("promise 3, limit");
        DeclarativeRows x = new DeclarativeRows();
        x.exception(1, 60);
        for (int i = 1; i <= 29; i++) {
            a.due("use(1, 5)", x.use(1, 5), i);
        }
        a.due("use(0, 1)", x.use(0, 1), 30);
        a.due("31st, kind 0", x.use(0, 1), NONE);
        a.due("31st, kind 1", x.use(1, 5), NONE);
        a.due("31st, kind 2", x.use(2, 0), NONE);
        a.due("31st, wrong kind", x.use(3, 0), -4);
        a.due("31st, wrong file", x.use(1, 20), -4);
        a.due("31st, no such exception", x.use(0, 2), -2);
        a.due("count(2)", x.count(2), 30);
        x.check(1, 0, true);
        a.due("raise(1, 0)", x.raise(1, 0), 30);
    }

    private static void check() {
        a.part("promise 4");
        DeclarativeRows x = new DeclarativeRows();
        x.exception(1, 60);
        a.due("check(0, 0, true)", x.check(0, 0, true), -2);
        a.due("check(2, 0, true)", x.check(2, 0, true), -2);
        a.due("check(MIN, 0, true)", x.check(MIN, 0, true), -2);
        a.due("check(MAX, 0, true)", x.check(MAX, 0, true), -2);
        a.due("check(2, -1, true)", x.check(2, -1, true), -2);
        a.due("check(1, -1, true)", x.check(1, -1, true), -4);
        a.due("check(1, 10000, true)", x.check(1, 10000, true), -4);
        a.due("check(1, MIN, true)", x.check(1, MIN, true), -4);
        a.due("check(1, MAX, false)", x.check(1, MAX, false), -4);
        a.due("count(1)", x.count(1), 0);
        a.due("check(1, 0, true)", x.check(1, 0, true), 1);
        a.due("check(1, 9999, false)", x.check(1, 9999, false), 2);
        a.due("check(1, 9999, false) again", x.check(1, 9999, false), 3);
        a.due("count(1)", x.count(1), 3);
        a.due("raise(1, 9998)", x.raise(1, 9998), 0);
        a.due("raise(1, 9999)", x.raise(1, 9999), -1);
    }

    private static void checkLimit() {
        a.part("promise 4, limit");
        DeclarativeRows x = new DeclarativeRows();
        x.exception(1, 60);
        for (int i = 1; i <= 99; i++) {
            a.due("check(1, 5, false)", x.check(1, 5, false), i);
        }
        a.due("raise(1, 5)", x.raise(1, 5), -1);
        a.due("100th", x.check(1, 5, true), 100);
        a.due("101st", x.check(1, 5, false), NONE);
        a.due("101st, no such exception", x.check(2, 5, false), -2);
        a.due("101st, wrong place", x.check(1, 10000, false), -4);
        a.due("count(1)", x.count(1), 100);
        a.due("raise(1, 5), the 100th counts", x.raise(1, 5), 0);
    }

    private static void raiseWrong() {
        a.part("promise 5, wrong");
        DeclarativeRows x = Rows.chain();
        a.due("raise(0, 0)", x.raise(0, 0), -2);
        a.due("raise(4, 0)", x.raise(4, 0), -2);
        a.due("raise(MIN, 0)", x.raise(MIN, 0), -2);
        a.due("raise(MAX, 0)", x.raise(MAX, 0), -2);
        a.due("raise(4, -1)", x.raise(4, -1), -2);
        a.due("raise(1, -1)", x.raise(1, -1), -4);
        a.due("raise(1, 10000)", x.raise(1, 10000), -4);
        a.due("raise(1, MIN)", x.raise(1, MIN), -4);
        a.due("raise(1, MAX)", x.raise(1, MAX), -4);
        a.due("count(4)", x.count(4), 0);
        a.due("last(0)", x.last(0), NONE);
        x.exception(1, 0);
        a.due("raise(4, 10000), not checked", x.raise(4, 10000), -4);
        x.check(4, 0, true);
        a.due("raise(4, 0) ends", x.raise(4, 0), 0);
        a.due("raise(1, 0) ended", x.raise(1, 0), -1);
        a.due("raise(4, 0) ended", x.raise(4, 0), -1);
        a.due("raise(5, 0) ended", x.raise(5, 0), -2);
        a.due("raise(1, 10000) ended", x.raise(1, 10000), -4);
        a.due("count(4)", x.count(4), 1);
        a.due("last(0)", x.last(0), 4);
    }

    private static void raiseChecked() {
        a.part("promise 5, checked");
        DeclarativeRows x = new DeclarativeRows();
        x.exception(1, 99);
        x.exception(2, 99);
        x.exception(3, 99);
        x.exception(1, 99);
        a.due("raise(1, 9999) without checks", x.raise(1, 9999), -1);
        x.check(2, 10, true);
        a.due("raise(2, 9)", x.raise(2, 9), -1);
        a.due("raise(2, 10)", x.raise(2, 10), 0);
        a.due("raise(3, 9999)", x.raise(3, 9999), 0);
        a.due("raise(1, 10): the check is below it", x.raise(1, 10), -1);
        a.due("raise(4, 10): the check is beside it", x.raise(4, 10), -1);
        x.check(1, 20, false);
        a.due("raise(3, 19)", x.raise(3, 19), 0);
        a.due("raise(3, 20): one above is nearer", x.raise(3, 20), -1);
        x.check(3, 15, true);
        a.due("raise(3, 20): told later, but further away", x.raise(3, 20), -1);
        x.check(2, 20, true);
        a.due("raise(3, 20): told later at one place", x.raise(3, 20), 0);
        x.check(1, 20, false);
        a.due("raise(3, 20): told later, above", x.raise(3, 20), -1);
        a.due("raise(3, 19)", x.raise(3, 19), 0);
        x.check(4, 0, true);
        a.due("raise(4, 0)", x.raise(4, 0), 0);
        x.check(4, 0, false);
        a.due("raise(4, 0)", x.raise(4, 0), -1);
    }

    private static void raiseTaker() {
        a.part("promise 5, taker");
        DeclarativeRows x = Rows.chain();
        x.use(1, 3);
        x.use(2, 3);
        a.due("raise(3, 0): uses of other kinds", x.raise(3, 0), 0);
        a.due("use(0, 3)", x.use(0, 3), 3);
        a.due("use(0, 1)", x.use(0, 1), 4);
        a.due("use(0, 3)", x.use(0, 3), 5);
        a.due("use(0, 1)", x.use(0, 1), 6);
        a.due("raise(2, 5): that above", x.raise(2, 5), 4);
        a.due("raise(3, 6): its own, the first", x.raise(3, 6), 3);
        a.due("taken(0)", x.taken(0), 3);
        a.due("taken(1)", x.taken(1), 4);
        a.due("last(0)", x.last(0), 3);
        a.due("last(1)", x.last(1), 6);
        a.due("last(2)", x.last(2), 3);
        DeclarativeRows y = Rows.chain();
        y.use(0, 1);
        a.due("raise(3, 0): two above", y.raise(3, 0), 1);
        DeclarativeRows z = Rows.chain();
        z.use(0, 1);
        z.use(0, 2);
        a.due("raise(3, 0): nearest above, though told later", z.raise(3, 0), 2);
        DeclarativeRows w = Rows.chain();
        w.use(0, 3);
        a.due("raise(2, 0): a use below does not take", w.raise(2, 0), 0);
    }

    private static void raiseWithoutTaker() {
        a.part("promise 5, without taker");
        DeclarativeRows x = new DeclarativeRows();
        x.exception(1, 49);
        x.exception(2, 50);
        x.exception(1, 49);
        x.check(1, 0, true);
        x.check(3, 0, true);
        a.due("raise(2, 3): 50 isn't fatal, though below one that is", x.raise(2, 3), 0);
        a.due("ends()", x.ends(), false);
        x.use(0, 3);
        a.due("raise(3, 3): fatal, but taken", x.raise(3, 3), 1);
        a.due("ends()", x.ends(), false);
        a.due("raise(1, 4): 49 is fatal", x.raise(1, 4), 0);
        a.due("ends()", x.ends(), true);
        a.due("last(0)", x.last(0), 1);
        a.due("last(1)", x.last(1), 4);
        a.due("last(2)", x.last(2), 0);
        a.due("count(4)", x.count(4), 3);
        a.due("count(5)", x.count(5), 2);
    }

    private static void raiseBarred() {
        a.part("promise 5, barred");
        DeclarativeRows x = Rows.pairs(3);
        x.raise(1, 10);
        x.raise(2, 20);
        x.raise(3, 30);
        a.due("raise(1, 40): runs, though not as the latest", x.raise(1, 40), 0);
        a.due("ends()", x.ends(), true);
        a.due("count(3)", x.count(3), 3);
        a.due("last(0)", x.last(0), 1);
        a.due("last(1)", x.last(1), 40);
        a.due("last(2)", x.last(2), 1);
        a.due("count(4)", x.count(4), 4);
        a.due("count(5)", x.count(5), 0);
        DeclarativeRows y = Rows.chain();
        y.use(0, 1);
        y.raise(3, 1);
        a.due("raise(2, 2): another one with that taker", y.raise(2, 2), 0);
        a.due("ends()", y.ends(), true);
        DeclarativeRows z = Rows.chain();
        z.use(0, 2);
        z.raise(3, 1);
        a.due("raise(1, 2): no taker, so passed over", z.raise(1, 2), 0);
        a.due("ends()", z.ends(), false);
    }

    private static void raiseEleventh() {
        a.part("promise 5, eleventh");
        DeclarativeRows x = Rows.pairs(11);
        for (int i = 1; i <= 10; i++) {
            a.due("raise(" + i + ", 0)", x.raise(i, 0), i);
        }
        a.due("ends()", x.ends(), false);
        a.due("count(3)", x.count(3), 10);
        a.due("nested(11)", x.nested(11), 0);
        a.due("raise(11, 7)", x.raise(11, 7), 0);
        a.due("ends()", x.ends(), true);
        a.due("count(3)", x.count(3), 10);
        a.due("taken(0)", x.taken(0), 10);
        a.due("last(0)", x.last(0), 11);
        a.due("last(1)", x.last(1), 7);
        a.due("last(2)", x.last(2), 11);
        a.due("count(4)", x.count(4), 11);
        a.due("count(5)", x.count(5), 0);
        DeclarativeRows y = Rows.pairs(11);
        for (int i = 1; i <= 10; i++) {
            y.raise(i, 0);
        }
        y.exception(1, 90);
        y.check(12, 0, true);
        a.due("raise(12, 0): none would run", y.raise(12, 0), 0);
        a.due("ends()", y.ends(), false);
        y.resume(10, 0);
        a.due("raise(11, 0): room again", y.raise(11, 0), 11);
        a.due("ends()", y.ends(), false);
    }

    private static void taken() {
        a.part("promise 6");
        DeclarativeRows x = Rows.pairs(10);
        for (int i = 1; i <= 10; i++) {
            x.raise(i, 0);
        }
        for (int i = 0; i < 10; i++) {
            a.due("taken(" + i + ")", x.taken(i), 10 - i);
        }
        a.due("taken(10)", x.taken(10), 0);
        a.due("taken(11)", x.taken(11), 0);
        a.due("taken(-1)", x.taken(-1), 0);
        a.due("taken(MIN)", x.taken(MIN), 0);
        a.due("taken(MAX)", x.taken(MAX), 0);
        x.resume(10, 0);
        a.due("taken(0)", x.taken(0), 9);
        a.due("taken(8)", x.taken(8), 1);
        a.due("taken(9)", x.taken(9), 0);
    }

    private static void resume() {
        a.part("promise 7");
        DeclarativeRows x = Rows.pairs(3);
        x.raise(1, 9999);
        x.raise(2, 0);
        x.raise(3, 5);
        a.due("resume(3, 1)", x.resume(3, 1), 1);
        a.due("count(3)", x.count(3), 2);
        a.due("resume(2, 0): place 0", x.resume(2, 0), 1);
        a.due("resume(1, 0): place 9999", x.resume(1, 0), 10000);
        a.due("count(3)", x.count(3), 0);
        a.due("resume(1, 0): none runs", x.resume(1, 0), 0);
        a.due("raise(1, 7): no more barred", x.raise(1, 7), 1);
        a.due("resume(1, 9999)", x.resume(1, 9999), 9999);
        x.use(1, 2);
        x.status(2, 10);
        a.due("resume(4, 0): a status came at place 0", x.resume(4, 0), 1);
        x.raise(1, 40);
        x.raise(2, 50);
        x.resume(2, 3);
        a.due("resume(1, 0): each has a place of its own", x.resume(1, 0), 41);
    }

    private static void resumeWrong() {
        a.part("promise 7, wrong");
        DeclarativeRows x = Rows.pairs(2);
        x.raise(1, 4);
        x.raise(2, 4);
        a.due("resume(1, 0): not the latest", x.resume(1, 0), 0);
        a.due("resume(0, 0)", x.resume(0, 0), 0);
        a.due("resume(3, 0)", x.resume(3, 0), 0);
        a.due("resume(MIN, 1)", x.resume(MIN, 1), 0);
        a.due("resume(MAX, 1)", x.resume(MAX, 1), 0);
        a.due("resume(2, -1)", x.resume(2, -1), -4);
        a.due("resume(2, 10000)", x.resume(2, 10000), -4);
        a.due("resume(2, MIN)", x.resume(2, MIN), -4);
        a.due("resume(2, MAX)", x.resume(2, MAX), -4);
        a.due("resume(1, -1)", x.resume(1, -1), -4);
        a.due("count(3)", x.count(3), 2);
        x.raise(1, 5);
        a.due("resume(2, 0) ended", x.resume(2, 0), -5);
        a.due("resume(1, 0) ended", x.resume(1, 0), -5);
        a.due("resume(2, 10000) ended", x.resume(2, 10000), -4);
        a.due("count(3)", x.count(3), 2);
    }

    private static void nested() {
        a.part("promise 8");
        DeclarativeRows x = Rows.chain();
        x.exception(1, 90);
        x.use(0, 1);
        x.use(0, 3);
        a.due("nested(1): none runs", x.nested(1), 0);
        a.due("nested(0)", x.nested(0), -2);
        a.due("nested(5)", x.nested(5), -2);
        a.due("nested(MIN)", x.nested(MIN), -2);
        a.due("nested(MAX)", x.nested(MAX), -2);
        x.raise(2, 0);
        a.due("nested(1)", x.nested(1), 1);
        a.due("nested(2)", x.nested(2), 1);
        a.due("nested(3): another taker", x.nested(3), 0);
        a.due("nested(4): no taker", x.nested(4), 0);
        x.raise(3, 0);
        a.due("nested(3)", x.nested(3), 1);
        a.due("nested(2): runs, though not as the latest", x.nested(2), 1);
        x.check(1, 0, false);
        a.due("nested(2): not checked", x.nested(2), 1);
        a.due("raise(2, 0): not checked", x.raise(2, 0), -1);
        a.due("ends()", x.ends(), false);
        x.resume(2, 0);
        x.resume(1, 0);
        a.due("nested(1): resumed", x.nested(1), 0);
        a.due("nested(3): resumed", x.nested(3), 0);
    }

    private static void propagate() {
        a.part("promise 9");
        DeclarativeRows x = Rows.chain();
        a.due("propagate(0): none", x.propagate(0), 0);
        x.raise(2, 0);
        a.due("propagate(-1)", x.propagate(-1), -4);
        a.due("propagate(100)", x.propagate(100), -4);
        a.due("propagate(MIN)", x.propagate(MIN), -4);
        a.due("propagate(MAX)", x.propagate(MAX), -4);
        a.due("last(3)", x.last(3), NONE);
        a.due("propagate(0)", x.propagate(0), 2);
        a.due("last(3)", x.last(3), 0);
        a.due("propagate(1): passed already", x.propagate(1), 0);
        a.due("propagate(0): passed already", x.propagate(0), 0);
        a.due("propagate(100): passed already", x.propagate(100), -4);
        a.due("last(3)", x.last(3), 0);
        x.raise(3, 0);
        a.due("last(3): a new one", x.last(3), NONE);
        a.due("propagate(99)", x.propagate(99), 3);
        a.due("last(3)", x.last(3), 99);
        x.status(0, 10);
        a.due("last(3): a status", x.last(3), NONE);
        a.due("propagate(1): a status", x.propagate(1), 0);
        a.due("last(3): a status", x.last(3), NONE);
        x.exception(1, 0);
        x.check(4, 0, true);
        x.raise(4, 0);
        a.due("ends()", x.ends(), true);
        a.due("propagate(3) ended", x.propagate(3), 4);
        a.due("last(3) ended", x.last(3), 3);
        DeclarativeRows y = Rows.chain();
        y.raise(1, 0);
        a.due("propagate(7): the number 1", y.propagate(7), 1);
        a.due("last(3)", y.last(3), 7);
    }

    private static void last() {
        a.part("promise 10");
        DeclarativeRows x = Rows.chain();
        a.due("last(0): none", x.last(0), NONE);
        x.use(0, 3);
        x.raise(3, 9999);
        a.due("last(0)", x.last(0), 3);
        a.due("last(1)", x.last(1), 9999);
        a.due("last(2)", x.last(2), 1);
        a.due("last(3)", x.last(3), NONE);
        a.due("last(-1)", x.last(-1), NONE);
        a.due("last(4)", x.last(4), NONE);
        a.due("last(MIN)", x.last(MIN), NONE);
        a.due("last(MAX)", x.last(MAX), NONE);
        x.resume(1, 1);
        a.due("last(0): resumed", x.last(0), 3);
        a.due("last(2): resumed", x.last(2), 1);
        x.check(1, 9, false);
        a.due("raise(2, 9)", x.raise(2, 9), -1);
        a.due("status(1, 9)", x.status(1, 9), -1);
        a.due("last(0): nothing came", x.last(0), 3);
        x.raise(1, 8);
        a.due("last(0)", x.last(0), 1);
        a.due("last(1)", x.last(1), 8);
        a.due("last(2)", x.last(2), 0);
        x.use(1, 7);
        x.status(7, 99);
        a.due("last(0): status", x.last(0), -99);
        a.due("last(1): status", x.last(1), 0);
        a.due("last(2): status", x.last(2), 2);
        x.status(8, 10);
        a.due("last(0): status", x.last(0), -10);
        a.due("last(2): status", x.last(2), 0);
    }

    private static void statusWrong() {
        a.part("promise 11, wrong");
        DeclarativeRows x = new DeclarativeRows();
        a.due("status(-1, 10)", x.status(-1, 10), -2);
        a.due("status(20, 10)", x.status(20, 10), -2);
        a.due("status(MIN, 10)", x.status(MIN, 10), -2);
        a.due("status(MAX, 10)", x.status(MAX, 10), -2);
        a.due("status(20, 100)", x.status(20, 100), -2);
        a.due("status(0, -1)", x.status(0, -1), -4);
        a.due("status(0, 100)", x.status(0, 100), -4);
        a.due("status(0, MIN)", x.status(0, MIN), -4);
        a.due("status(0, MAX)", x.status(0, MAX), -4);
        a.due("status(0, 0)", x.status(0, 0), -1);
        a.due("status(0, 9)", x.status(0, 9), -1);
        a.due("count(4)", x.count(4), 0);
        a.due("last(0)", x.last(0), NONE);
        a.due("status(0, 10)", x.status(0, 10), 0);
        a.due("status(19, 99)", x.status(19, 99), 0);
        a.due("ends(): statuses are passed over", x.ends(), false);
        a.due("count(4)", x.count(4), 2);
        a.due("count(5)", x.count(5), 2);
        x.exception(1, 0);
        x.check(1, 0, true);
        x.raise(1, 0);
        a.due("status(0, 10) ended", x.status(0, 10), -1);
        a.due("status(0, 9) ended", x.status(0, 9), -1);
        a.due("status(20, 10) ended", x.status(20, 10), -2);
        a.due("status(0, 100) ended", x.status(0, 100), -4);
        a.due("count(4)", x.count(4), 3);
        a.due("last(0)", x.last(0), 1);
    }

    private static void statusTaker() {
        a.part("promise 11, taker");
        DeclarativeRows x = new DeclarativeRows();
        x.exception(1, 90);
        x.exception(1, 90);
        x.exception(1, 90);
        a.due("use(0, 3)", x.use(0, 3), 1);
        a.due("use(2, 3)", x.use(2, 3), 2);
        a.due("use(2, 3)", x.use(2, 3), 3);
        a.due("status(3, 10): uses of other kinds", x.status(3, 10), 0);
        x.mode(3, 3);
        a.due("status(3, 10): by mode, the first", x.status(3, 10), 2);
        a.due("taken(0)", x.taken(0), 2);
        a.due("last(2)", x.last(2), 2);
        a.due("use(1, 3)", x.use(1, 3), 4);
        a.due("use(1, 3)", x.use(1, 3), 5);
        a.due("status(3, 99): by file, the first", x.status(3, 99), 4);
        a.due("resume(4, 0)", x.resume(4, 0), 1);
        x.mode(3, NONE);
        a.due("status(3, 11): by file without mode", x.status(3, 11), 4);
        x.mode(4, 2);
        a.due("status(4, 11): a mode without use", x.status(4, 11), 0);
        a.due("ends()", x.ends(), false);
    }

    private static void statusEnds() {
        a.part("promise 11, ends");
        DeclarativeRows x = new DeclarativeRows();
        x.use(2, 0);
        x.mode(1, 0);
        x.mode(2, 0);
        a.due("status(1, 20)", x.status(1, 20), 1);
        a.due("status(2, 30): another file of the mode", x.status(2, 30), 0);
        a.due("ends()", x.ends(), true);
        a.due("last(0)", x.last(0), -30);
        a.due("last(2): barred", x.last(2), 1);
        a.due("count(4)", x.count(4), 2);
        a.due("count(5)", x.count(5), 0);
        DeclarativeRows y = Rows.pairs(9);
        y.use(1, 0);
        y.use(1, 1);
        for (int i = 1; i <= 9; i++) {
            y.raise(i, 0);
        }
        a.due("status(0, 10): the 10th", y.status(0, 10), 10);
        a.due("status(5, 10): none would run", y.status(5, 10), 0);
        a.due("ends()", y.ends(), false);
        a.due("status(1, 10): the 11th", y.status(1, 10), 0);
        a.due("ends()", y.ends(), true);
        a.due("last(2): no room", y.last(2), 11);
    }

    private static void mode() {
        a.part("promise 12");
        DeclarativeRows x = new DeclarativeRows();
        a.due("mode(-1, 0)", x.mode(-1, 0), -2);
        a.due("mode(20, 0)", x.mode(20, 0), -2);
        a.due("mode(MIN, 0)", x.mode(MIN, 0), -2);
        a.due("mode(MAX, 0)", x.mode(MAX, 0), -2);
        a.due("mode(20, 4)", x.mode(20, 4), -2);
        a.due("mode(0, -2)", x.mode(0, -2), -4);
        a.due("mode(0, 4)", x.mode(0, 4), -4);
        a.due("mode(0, MIN)", x.mode(0, MIN), -4);
        a.due("mode(0, MAX)", x.mode(0, MAX), -4);
        x.use(2, 0);
        x.use(2, 3);
        a.due("status(0, 10): no mode at first", x.status(0, 10), 0);
        a.due("mode(0, 0)", x.mode(0, 0), 1);
        a.due("status(0, 10)", x.status(0, 10), 1);
        x.resume(1, 0);
        a.due("mode(0, 3)", x.mode(0, 3), 1);
        a.due("status(0, 10)", x.status(0, 10), 2);
        x.resume(2, 0);
        a.due("mode(0, 4)", x.mode(0, 4), -4);
        a.due("status(0, 10): as it was", x.status(0, 10), 2);
        x.resume(2, 0);
        a.due("mode(0, NONE)", x.mode(0, NONE), 1);
        a.due("status(0, 10): closed", x.status(0, 10), 0);
        a.due("mode(0, NONE) again", x.mode(0, NONE), 1);
        a.due("mode(19, 3)", x.mode(19, 3), 1);
        a.due("status(19, 10)", x.status(19, 10), 2);
        a.due("status(18, 10): another file", x.status(18, 10), 0);
    }

    private static void ends() {
        a.part("promise 13");
        DeclarativeRows x = Rows.pairs(1);
        a.due("ends() at first", x.ends(), false);
        x.raise(1, 0);
        a.due("ends() while one runs", x.ends(), false);
        x.raise(1, 0);
        a.due("ends() barred", x.ends(), true);
        a.due("exception(1, 9) ended", x.exception(1, 9), 2);
        a.due("use(0, 2) ended", x.use(0, 2), 2);
        a.due("check(2, 0, true) ended", x.check(2, 0, true), 2);
        a.due("mode(1, 1) ended", x.mode(1, 1), 1);
        a.due("nested(1) ended", x.nested(1), 1);
        a.due("nested(2) ended", x.nested(2), 0);
        a.due("raise(2, 0) ended", x.raise(2, 0), -1);
        a.due("taken(0) ended", x.taken(0), 1);
        a.due("ends() for good", x.ends(), true);
    }

    private static void count() {
        a.part("promise 14");
        DeclarativeRows x = Rows.chain();
        x.use(0, 2);
        x.use(1, 1);
        x.check(1, 10, false);
        x.raise(3, 1);
        x.raise(1, 2);
        x.raise(1, 10);
        x.status(1, 10);
        x.status(2, 10);
        x.status(2, 9);
        x.resume(2, 0);
        a.due("count(0)", x.count(0), 3);
        a.due("count(1)", x.count(1), 2);
        a.due("count(2)", x.count(2), 2);
        a.due("count(3)", x.count(3), 1);
        a.due("count(4)", x.count(4), 4);
        a.due("count(5)", x.count(5), 2);
        a.due("count(-1)", x.count(-1), NONE);
        a.due("count(6)", x.count(6), NONE);
        a.due("count(MIN)", x.count(MIN), NONE);
        a.due("count(MAX)", x.count(MAX), NONE);
        x.raise(2, 3);
        a.due("count(4): what was barred", x.count(4), 5);
        a.due("count(5): what was barred", x.count(5), 2);
        x.raise(1, 3);
        a.due("count(4): ended", x.count(4), 5);
    }
}
