import java.util.function.Supplier;

/** A unit that has ended, in each way in which it can: what is refused then, and how. */
public final class EndedBoundsTest {
    private static final Answers a = new Answers();

    public static void main(String[] args) {
        whatDoesNotEnd();
        Rows.ended().forEach((way, made) -> {
            hasEnded(way, made);
            raiseIsRefused(way, made);
            statusIsRefused(way, made);
            resumeIsRefused(way, made);
            nothingIsDone(way, made);
            theRestGoesOn(way, made);
        });
        a.finish();
    }

    private static void whatDoesNotEnd() {
        a.part("Promise 13: what does not end the unit");
        a.due("new", new DeclarativeRows().ends(), false);
        a.due("ten run", Rows.running(10, 10).ends(), false);
        DeclarativeRows x = Rows.running(1, 1);
        x.resume(1, 0);
        a.due("the last one was resumed", x.ends(), false);
        DeclarativeRows y = new DeclarativeRows();
        y.exception(1, 0);
        y.raise(1, 0);
        a.due("a fatal one that is not checked", y.ends(), false);
        y.use(0, 1);
        y.check(1, 0, true);
        y.raise(1, 0);
        a.due("a fatal one with a taker", y.ends(), false);
        y.check(1, 0, false);
        y.raise(1, 0);
        a.due("one that would be barred, but is not checked", y.ends(), false);
        y.nested(1);
        a.due("asking whether it would be barred", y.ends(), false);
    }

    private static void hasEnded(String way, Supplier<DeclarativeRows> made) {
        a.part("Promise 13, ended by " + way);
        DeclarativeRows x = made.get();
        a.due("ends()", x.ends(), true);
        x.resume(x.taken(0), 0);
        x.exception(1, 99);
        a.due("ends() for good", x.ends(), true);
    }

    private static void raiseIsRefused(String way, Supplier<DeclarativeRows> made) {
        a.part("Promise 5: -1, ended by " + way);
        a.each("raise(1, _)", -1, place -> made.get().raise(1, place), 0, 1, 9999);
        int last = made.get().count(0);
        a.each("raise(_, 0)", -1, e -> made.get().raise(e, 0), 1, last);
        a.outside("raise(_, 0)", 1, last, -2, e -> made.get().raise(e, 0));
        a.outside("raise(1, _)", 0, 9999, -4, place -> made.get().raise(1, place));
    }

    private static void statusIsRefused(String way, Supplier<DeclarativeRows> made) {
        a.part("Promise 11: -1, ended by " + way);
        a.each("status(0, _)", -1, code -> made.get().status(0, code), 0, 9, 10, 99);
        a.each("status(_, 10)", -1, file -> made.get().status(file, 10), 0, 4, 19);
        a.outside("status(_, 10)", 0, 19, -2, file -> made.get().status(file, 10));
        a.outside("status(0, _)", 0, 99, -4, code -> made.get().status(0, code));
    }

    private static void resumeIsRefused(String way, Supplier<DeclarativeRows> made) {
        a.part("Promise 7: -5, ended by " + way);
        int latest = made.get().taken(0);
        a.each("resume(" + latest + ", _)", -5, to -> made.get().resume(latest, to), 0, 1, 9999);
        a.each("resume(_, 0)", -5, use -> made.get().resume(use, 0), 0, 1, 30, 31);
        a.outside("resume(" + latest + ", _)", 0, 9999, -4, to -> made.get().resume(latest, to));
    }

    private static void nothingIsDone(String way, Supplier<DeclarativeRows> made) {
        a.part("Terms: nothing is raised any more, ended by " + way);
        DeclarativeRows x = made.get();
        for (int e = 1; e <= x.count(0); e++) {
            x.raise(e, 0);
        }
        for (int file = 0; file < 20; file++) {
            x.status(file, 10);
        }
        x.resume(x.taken(0), 0);
        a.due("what is shown", Shown.byAsking(x), Shown.byAsking(made.get()));
    }

    /** The document names -1 and -5 for raise, status and resume alone; all else is as ever. */
    private static void theRestGoesOn(String way, Supplier<DeclarativeRows> made) {
        a.part("what the end does not refuse, ended by " + way);
        DeclarativeRows x = made.get();
        int exceptions = x.count(0);
        int uses = x.count(2);
        int checks = x.count(1);
        int latest = x.taken(0);
        a.due("exception(1, 0)", x.exception(1, 0), exceptions + 1);
        a.due("exception(2, 99)", x.exception(2, 99), exceptions + 2);
        a.due("use(0, the new one)", x.use(0, exceptions + 2), uses + 1);
        a.due("check(1, 0, true)", x.check(1, 0, true), checks + 1);
        a.due("mode(0, 1)", x.mode(0, 1), 1);
        a.due("nested(1): use 1 runs", x.nested(1), way.equals("a barred status") ? 0 : 1);
        a.due("nested(the new one)", x.nested(exceptions + 2), 0);
        a.due("taken(0)", x.taken(0), latest);
        int last = x.last(0);
        a.due("propagate(0)", x.propagate(0), last > 0 ? last : 0);
        a.due("propagate(0) again", x.propagate(0), 0);
    }
}
