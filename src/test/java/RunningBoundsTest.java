/** The bounds of the uses that run: none, ten, an 11th, the latest first, one that already runs. */
public final class RunningBoundsTest {
    private static final Answers a = new Answers();

    public static void main(String[] args) {
        noneRuns();
        tenRun();
        the11thEnds();
        the11thByAStatusEnds();
        withTenThoseWithoutTakerAreNot11th();
        withTenAFatalOneEnds();
        withTenOneThatRunsIsBarred();
        roomAgainAfterAResume();
        latestFirst();
        takenOutside();
        alreadyRunsAtAnyPlaceOfTheRow();
        alreadyRunsForAnother();
        alreadyRunsForAStatus();
        alreadyRunsForTheMode();
        resumedOneRunsNoMore();
        resumeBehindThePlace();
        resumeAt();
        resumeToOutside();
        resumeOnlyTheLatest();
        resumeAfterTheLast();
        eachHasItsOwnPlace();
        a.finish();
    }

    private static void noneRuns() {
        a.part("Promise 6: 0 when there is none");
        a.each("taken(_)", 0, i -> Rows.pairs(3).taken(i), 0, 1, 9);
        a.each("nested(_)", 0, e -> Rows.pairs(3).nested(e), 1, 2, 3);
        a.each("resume(_, 0)", 0, use -> Rows.pairs(3).resume(use, 0), 0, 1, 2, 3, 4);
        a.due("count(3)", Rows.pairs(3).count(3), 0);
    }

    private static void tenRun() {
        a.part("Terms: RUNNING ones, at most 10");
        DeclarativeRows x = Rows.pairs(10);
        for (int many = 1; many <= 10; many++) {
            a.due("raise(" + many + ", 0)", x.raise(many, 0), many);
            a.due("count(3)", x.count(3), many);
            a.due("ends()", x.ends(), false);
        }
    }

    private static void the11thEnds() {
        a.part("Terms: when an 11th would run, the unit ends");
        DeclarativeRows x = Rows.running(11, 10);
        a.due("nested(11): it is not barred", x.nested(11), 0);
        a.due("raise(11, 5)", x.raise(11, 5), 0);
        a.due("ends()", x.ends(), true);
        a.due("count(3)", x.count(3), 10);
        a.due("taken(0)", x.taken(0), 10);
        a.due("taken(9)", x.taken(9), 1);
        a.due("taken(10)", x.taken(10), 0);
        a.due("last(0)", x.last(0), 11);
        a.due("last(1)", x.last(1), 5);
        a.due("last(2): had no room", x.last(2), 11);
        a.due("count(4)", x.count(4), 11);
        a.due("count(5)", x.count(5), 0);
        a.due("nested(11): it does not run", x.nested(11), 0);
    }

    private static void the11thByAStatusEnds() {
        a.part("Promise 11: an 11th by a status");
        DeclarativeRows x = Rows.running(10, 9);
        x.use(1, 3);
        a.due("status(3, 10): the 10th", x.status(3, 10), 11);
        a.due("ends()", x.ends(), false);
        x.use(2, 2);
        x.mode(4, 2);
        a.due("status(4, 99): the 11th", x.status(4, 99), 0);
        a.due("ends()", x.ends(), true);
        a.due("count(3)", x.count(3), 10);
        a.due("taken(0)", x.taken(0), 11);
        a.due("last(0)", x.last(0), -99);
        a.due("last(2): had no room", x.last(2), 12);
        a.due("count(4)", x.count(4), 11);
        a.due("count(5)", x.count(5), 0);
    }

    private static void withTenThoseWithoutTakerAreNot11th() {
        a.part("Terms: with ten, those without a taker are passed over");
        DeclarativeRows x = Rows.running(10, 10);
        x.exception(1, 50);
        x.check(11, 0, true);
        a.due("raise(11, 0)", x.raise(11, 0), 0);
        a.due("status(0, 10)", x.status(0, 10), 0);
        a.due("ends()", x.ends(), false);
        a.due("count(3)", x.count(3), 10);
        a.due("count(4)", x.count(4), 12);
        a.due("count(5)", x.count(5), 2);
    }

    private static void withTenAFatalOneEnds() {
        a.part("Terms: with ten, a fatal one without a taker");
        DeclarativeRows x = Rows.running(10, 10);
        x.exception(1, 49);
        x.check(11, 0, true);
        a.due("raise(11, 0)", x.raise(11, 0), 0);
        a.due("ends()", x.ends(), true);
        a.due("last(2)", x.last(2), 0);
        a.due("count(5)", x.count(5), 1);
    }

    private static void withTenOneThatRunsIsBarred() {
        a.part("Terms: with ten, one that already runs");
        DeclarativeRows x = Rows.running(10, 10);
        a.due("raise(1, 0)", x.raise(1, 0), 0);
        a.due("ends()", x.ends(), true);
        a.due("last(2)", x.last(2), 1);
        a.due("count(3)", x.count(3), 10);
    }

    private static void roomAgainAfterAResume() {
        a.part("Promise 7: room again after a resume");
        DeclarativeRows x = Rows.running(11, 10);
        a.due("resume(10, 0)", x.resume(10, 0), Rows.PLACE + 11);
        a.due("raise(11, 0)", x.raise(11, 0), 11);
        a.due("ends()", x.ends(), false);
        a.due("count(3)", x.count(3), 10);
        a.due("taken(0)", x.taken(0), 11);
        a.due("taken(1)", x.taken(1), 9);
        a.due("raise(10, 0): now this is the 11th", x.raise(10, 0), 0);
        a.due("ends()", x.ends(), true);
    }

    private static void latestFirst() {
        a.part("Promise 6: the latest first, from 0 on");
        for (int run = 1; run <= 10; run++) {
            DeclarativeRows x = Rows.running(10, run);
            for (int i = 0; i < run; i++) {
                a.due(run + " run: taken(" + i + ")", x.taken(i), run - i);
            }
        }
    }

    private static void takenOutside() {
        a.part("Promise 6: 0 when there is none");
        for (int run = 0; run <= 10; run++) {
            int now = run;
            a.outside(run + " run: taken(_)", 0, run - 1, 0, i -> Rows.running(10, now).taken(i));
            a.each(run + " run: taken(_)", 0, i -> Rows.running(10, now).taken(i), 10, 11);
        }
    }

    private static void alreadyRunsAtAnyPlaceOfTheRow() {
        a.part("Terms: what comes while a use runs that would be its taker is BARRED");
        for (int barred = 1; barred <= 10; barred++) {
            DeclarativeRows x = Rows.running(10, 10);
            a.due("nested(" + barred + ")", x.nested(barred), 1);
            a.due("raise(" + barred + ", 3)", x.raise(barred, 3), 0);
            a.due("ends()", x.ends(), true);
            a.due("last(0)", x.last(0), barred);
            a.due("last(1)", x.last(1), 3);
            a.due("last(2)", x.last(2), barred);
            a.due("count(3)", x.count(3), 10);
            a.due("count(4)", x.count(4), 11);
            a.due("count(5)", x.count(5), 0);
        }
    }

    private static void alreadyRunsForAnother() {
        a.part("Terms: BARRED by the taker, not by the exception");
        DeclarativeRows x = Rows.chain();
        x.use(0, 1);
        x.raise(3, 1);
        a.due("nested(2)", x.nested(2), 1);
        a.due("raise(2, 2): another one of the same taker", x.raise(2, 2), 0);
        a.due("ends()", x.ends(), true);
        DeclarativeRows y = Rows.chain();
        y.use(0, 1);
        y.raise(3, 1);
        y.use(0, 3);
        a.due("nested(3): a new use is its taker", y.nested(3), 0);
        a.due("raise(3, 2): the same with another taker", y.raise(3, 2), 2);
        a.due("ends()", y.ends(), false);
    }

    private static void alreadyRunsForAStatus() {
        a.part("Promise 11: a barred status of a file");
        DeclarativeRows x = new DeclarativeRows();
        x.use(1, 0);
        x.use(1, 19);
        a.due("status(0, 10)", x.status(0, 10), 1);
        a.due("status(19, 10): another file", x.status(19, 10), 2);
        a.due("status(0, 9): below 10 it does not come", x.status(0, 9), -1);
        a.due("ends()", x.ends(), false);
        a.due("status(0, 10)", x.status(0, 10), 0);
        a.due("ends()", x.ends(), true);
        a.due("last(2)", x.last(2), 1);
        a.due("count(3)", x.count(3), 2);
    }

    private static void alreadyRunsForTheMode() {
        a.part("Promise 11: a barred status of a mode");
        DeclarativeRows x = new DeclarativeRows();
        x.use(2, 3);
        x.mode(0, 3);
        x.mode(1, 3);
        x.mode(2, 2);
        a.due("status(0, 10)", x.status(0, 10), 1);
        a.due("status(2, 10): a mode without use", x.status(2, 10), 0);
        a.due("ends()", x.ends(), false);
        a.due("status(1, 10): another file of the mode", x.status(1, 10), 0);
        a.due("ends()", x.ends(), true);
        a.due("last(2)", x.last(2), 1);
    }

    private static void resumedOneRunsNoMore() {
        a.part("Promise 7: the use ends, so it bars no more");
        DeclarativeRows x = Rows.running(1, 1);
        x.resume(1, 0);
        a.due("nested(1)", x.nested(1), 0);
        a.due("count(3)", x.count(3), 0);
        a.due("raise(1, 0)", x.raise(1, 0), 1);
        a.due("ends()", x.ends(), false);
    }

    private static void resumeBehindThePlace() {
        a.part("Promise 7: to = 0, that place + 1");
        for (int place : new int[] {0, 1, 9998, 9999}) {
            DeclarativeRows x = Rows.pairs(1);
            x.raise(1, place);
            a.due("raised at " + place + ": resume(1, 0)", x.resume(1, 0), place + 1);
        }
        DeclarativeRows y = new DeclarativeRows();
        y.use(1, 0);
        y.status(0, 99);
        a.due("a status: resume(1, 0)", y.resume(1, 0), 1);
    }

    private static void resumeAt() {
        a.part("Promise 7: else at to (1 .. 9999)");
        for (int to : new int[] {1, 2, 100, 9998, 9999}) {
            DeclarativeRows x = Rows.running(2, 2);
            a.due("resume(2, " + to + ")", x.resume(2, to), to);
            a.due("taken(0)", x.taken(0), 1);
            a.due("count(3)", x.count(3), 1);
        }
    }

    private static void resumeToOutside() {
        a.part("Promise 7: -4");
        a.outside("resume(2, _)", 0, 9999, -4, to -> Rows.running(2, 2).resume(2, to));
        DeclarativeRows x = Rows.running(2, 2);
        a.outside("resume(2, _)", 0, 9999, -4, to -> x.resume(2, to));
        a.due("count(3)", x.count(3), 2);
        a.due("resume(2, 0)", x.resume(2, 0), Rows.PLACE + 3);
    }

    private static void resumeOnlyTheLatest() {
        a.part("Promise 7: 0 when that use isn't the latest one that runs");
        DeclarativeRows x = Rows.running(4, 3);
        a.each("resume(_, 0)", 0, use -> x.resume(use, 0),
            1, 2, 4, 5, 0, -1, -3, 30, 31, Integer.MIN_VALUE, Integer.MAX_VALUE);
        a.each("resume(_, 9999)", 0, use -> x.resume(use, 9999), 1, 2, 4, 0);
        a.due("count(3)", x.count(3), 3);
        a.due("resume(3, 0)", x.resume(3, 0), Rows.PLACE + 4);
    }

    private static void resumeAfterTheLast() {
        a.part("Promise 7: none runs any more");
        DeclarativeRows x = Rows.running(1, 1);
        x.resume(1, 5);
        a.each("resume(1, _)", 0, to -> x.resume(1, to), 0, 5, 9999);
        a.due("resume(0, 0)", x.resume(0, 0), 0);
        a.due("count(3)", x.count(3), 0);
        a.due("taken(0)", x.taken(0), 0);
    }

    private static void eachHasItsOwnPlace() {
        a.part("Terms: each with the place where it was raised");
        DeclarativeRows x = Rows.running(10, 10);
        for (int use = 10; use >= 1; use--) {
            a.due("resume(" + use + ", 0)", x.resume(use, 0), Rows.PLACE + use + 1);
            a.due("count(3)", x.count(3), use - 1);
        }
    }
}
