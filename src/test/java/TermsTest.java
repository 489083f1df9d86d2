/** One method for each sentence of the document's 'Terms', in its order. */
public final class TermsTest {
    private static final int NONE = DeclarativeRows.NONE;
    private static final Answers a = new Answers();

    public static void main(String[] args) {
        exceptionsAreNumbered();
        exceptionsAreBelowTheLatest();
        fatalAreNamesBelow50();
        checksAreRows();
        checkedAtAPlace();
        usesAreNumbered();
        takerOfAnException();
        takerOfAStatus();
        runningStandInARow();
        barredEndsTheUnit();
        withoutATaker();
        eleventhEndsTheUnit();
        endedRaisesNothing();
        lastException();
        a.finish();
    }

    private static void exceptionsAreNumbered() {
        a.part("EXCEPTIONS are numbered from 1 on (at most 60), each of a LEVEL 1 .. 3 with a NAME 0 .. 99");
        DeclarativeRows x = new DeclarativeRows();
        a.outside("exception(_, 0)", 1, 3, -4, level -> x.exception(level, 0));
        a.outside("exception(1, _)", 0, 99, -4, name -> x.exception(1, name));
        for (int number = 1; number <= 60; number++) {
            int level = 1 + (number - 1) % 3;
            int name = number % 2 == 0 ? 0 : 99;
            a.due("exception(" + level + ", " + name + ")", x.exception(level, name), number);
        }
        a.each("exception(_, 50): the 61st", NONE, level -> x.exception(level, 50), 1, 2, 3);
    }

    private static void exceptionsAreBelowTheLatest() {
        a.part("one of level 2, 3 is BELOW the latest one of a level less by one that was told (which must be there)");
        DeclarativeRows x = new DeclarativeRows();
        a.each("exception(_, 50): none above", -2, level -> x.exception(level, 50), 2, 3);
        x.exception(1, 50);
        a.due("exception(3, 50): one of level 1 isn't enough", x.exception(3, 50), -2);
        x.exception(2, 50);
        x.exception(1, 50);
        a.due("exception(3, 50)", x.exception(3, 50), 4);
        a.due("exception(2, 50)", x.exception(2, 50), 5);
        a.due("exception(3, 50)", x.exception(3, 50), 6);
        for (int number = 1; number <= 6; number++) {
            x.check(number, 0, true);
        }
        for (int number : new int[] {1, 2, 3, 5}) {
            x.use(0, number);
        }
        // The uses 1, 2, 3, 4 are for 1, 2, 3, 5; what has none shows by its taker what it is below.
        a.due("raise(4, 0): below 2, though 3 was told since", x.raise(4, 0), 2);
        a.due("raise(6, 0): below 5", x.raise(6, 0), 4);
        x.exception(2, 50);
        a.due("raise(7, 0): below 3, and so checked", x.raise(7, 0), 3);
    }

    private static void fatalAreNamesBelow50() {
        a.part("FATAL are those with a name below 50");
        for (int name = 0; name <= 99; name++) {
            DeclarativeRows x = new DeclarativeRows();
            x.exception(1, name);
            x.check(1, 0, true);
            a.due("raise(1, 0), name " + name, x.raise(1, 0), 0);
            a.due("ends(), name " + name, x.ends(), name < 50);
        }
    }

    private static void checksAreRows() {
        a.part("CHECKS are rows: an exception, a place 0 .. 9999, on or off (at most 100)");
        DeclarativeRows x = Rows.pairs(1);
        a.outside("check(_, 0, true)", 1, 1, -2, number -> x.check(number, 0, true));
        a.outside("check(1, _, true)", 0, 9999, -4, place -> x.check(1, place, true));
        for (int many = 2; many <= 100; many++) {
            int place = many % 2 == 0 ? 9999 : 0;
            a.due("check(1, " + place + ", ..)", x.check(1, place, many % 4 == 0), many);
        }
        a.due("check(1, 0, true): the 101st", x.check(1, 0, true), NONE);
        a.due("check(1, 0, false): the 101st", x.check(1, 0, false), NONE);
        a.due("count(1)", x.count(1), 100);
    }

    private static void checkedAtAPlace() {
        a.part("An exception is CHECKED at a place, if of the checks of it and of those above it ..");
        DeclarativeRows x = new DeclarativeRows();
        x.exception(1, 50);
        x.exception(2, 50);
        x.exception(3, 50);
        x.exception(1, 50);
        a.each("raise(_, 9999): without one it is not", -1, number -> x.raise(number, 9999), 1, 2, 3, 4);
        x.check(2, 10, true);
        a.due("raise(3, 9): the place is behind", x.raise(3, 9), -1);
        a.each("raise(_, 10): of it and of those above it", 0, number -> x.raise(number, 10), 2, 3);
        a.each("raise(_, 10): it is below or beside", -1, number -> x.raise(number, 10), 1, 4);
        x.check(1, 20, false);
        a.each("raise(3, _): the greatest place not behind is on", 0, place -> x.raise(3, place), 10, 19);
        a.each("raise(3, _): the greatest place not behind is off", -1, place -> x.raise(3, place), 20, 9999);
        x.check(3, 15, true);
        a.due("raise(3, 20): the greatest place, not the latest told", x.raise(3, 20), -1);
        x.check(2, 20, true);
        a.due("raise(3, 20): of several the latest told is on", x.raise(3, 20), 0);
        x.check(1, 20, false);
        a.due("raise(3, 20): of several the latest told is off", x.raise(3, 20), -1);
        a.due("raise(3, 19)", x.raise(3, 19), 0);
    }

    private static void usesAreNumbered() {
        a.part("USES are procedures, numbered from 1 on (at most 30), for an exception, a FILE 0 .. 19 or a MODE 0 .. 3");
        DeclarativeRows x = new DeclarativeRows();
        x.exception(1, 50);
        a.outside("use(_, 1)", 0, 2, -4, kind -> x.use(kind, 1));
        a.outside("use(0, _)", 1, 1, -2, of -> x.use(0, of));
        a.outside("use(1, _)", 0, 19, -4, of -> x.use(1, of));
        a.outside("use(2, _)", 0, 3, -4, of -> x.use(2, of));
        for (int number = 1; number <= 6; number++) {
            a.due("use(0, 1)", x.use(0, 1), number);
        }
        for (int file = 0; file <= 19; file++) {
            a.due("use(1, " + file + ")", x.use(1, file), 7 + file);
        }
        for (int mode = 0; mode <= 3; mode++) {
            a.due("use(2, " + mode + ")", x.use(2, mode), 27 + mode);
        }
        a.each("use(_, 1): the 31st", NONE, kind -> x.use(kind, 1), 0, 1, 2);
        a.due("count(2)", x.count(2), 30);
    }

    private static void takerOfAnException() {
        a.part("The TAKER of an exception: the first use told for it, else for the one above it, and so on");
        DeclarativeRows x = Rows.chain();
        a.due("raise(3, 0): none", x.raise(3, 0), 0);
        x.use(1, 3);
        x.use(2, 3);
        a.due("raise(3, 0): none for an exception", x.raise(3, 0), 0);
        x.use(0, 1);
        a.due("raise(3, 0): the use for 1", x.raise(3, 0), 3);
        x.use(0, 2);
        a.due("raise(3, 0): the use for 2", x.raise(3, 0), 4);
        x.use(0, 3);
        a.due("raise(3, 0): the use for 3", x.raise(3, 0), 5);
        DeclarativeRows y = Rows.chain();
        y.use(0, 3);
        y.use(0, 3);
        y.use(0, 2);
        y.use(0, 2);
        a.due("raise(3, 0): the first for it", y.raise(3, 0), 1);
        a.due("raise(2, 0): the first for it, not one below", y.raise(2, 0), 3);
        a.due("raise(1, 0): none for it", y.raise(1, 0), 0);
    }

    private static void takerOfAStatus() {
        a.part("of a file's status: the first one told for the file, else for the file's mode, if it has one (none at first)");
        DeclarativeRows x = new DeclarativeRows();
        x.exception(1, 50);
        x.use(0, 1);
        x.use(2, 1);
        x.use(2, 1);
        a.due("status(1, 10): it has no mode at first", x.status(1, 10), 0);
        x.mode(1, 0);
        a.due("status(1, 10): no use for mode 0", x.status(1, 10), 0);
        x.mode(1, 1);
        a.due("status(1, 10): the first for mode 1", x.status(1, 10), 2);
        x.resume(2, 0);
        x.use(1, 1);
        x.use(1, 1);
        a.due("status(1, 10): the first for the file", x.status(1, 10), 4);
        x.resume(4, 0);
        x.mode(1, NONE);
        a.due("status(1, 10): for the file, without a mode", x.status(1, 10), 4);
        DeclarativeRows y = new DeclarativeRows();
        for (int mode = 0; mode <= 3; mode++) {
            y.use(2, mode);
        }
        for (int file = 0; file <= 19; file++) {
            a.due("status(" + file + ", 10): no file has a mode at first", y.status(file, 10), 0);
        }
    }

    private static void runningStandInARow() {
        a.part("RUNNING ones stand in a row, the latest first, each with the place where it was raised; at most 10");
        DeclarativeRows x = Rows.running(10, 10);
        a.due("count(3)", x.count(3), 10);
        for (int i = 0; i < 10; i++) {
            a.due("taken(" + i + ")", x.taken(i), 10 - i);
        }
        a.due("taken(10)", x.taken(10), 0);
        for (int use = 10; use >= 1; use--) {
            a.due("resume(" + use + ", 0)", x.resume(use, 0), Rows.PLACE + use + 1);
            a.due("taken(0)", x.taken(0), use - 1);
        }
    }

    private static void barredEndsTheUnit() {
        a.part("What comes while a use runs that would be its taker is BARRED: the unit ENDS");
        for (int number = 1; number <= 3; number++) {
            DeclarativeRows x = Rows.running(4, 3);
            a.due("nested(" + number + ")", x.nested(number), 1);
            a.due("raise(" + number + ", 0)", x.raise(number, 0), 0);
            a.due("ends() after raise(" + number + ", 0)", x.ends(), true);
        }
        DeclarativeRows y = Rows.running(4, 3);
        a.due("nested(4): its taker doesn't run", y.nested(4), 0);
        a.due("raise(4, 0)", y.raise(4, 0), 4);
        a.due("ends()", y.ends(), false);
        DeclarativeRows z = new DeclarativeRows();
        z.use(1, 6);
        z.status(6, 10);
        a.due("status(6, 11): barred as well", z.status(6, 11), 0);
        a.due("ends()", z.ends(), true);
    }

    private static void withoutATaker() {
        a.part("When there is no taker a fatal exception ends the unit; others, and statuses, are passed over");
        DeclarativeRows x = Rows.pairs(1);
        x.exception(1, 50);
        x.exception(1, 49);
        x.check(2, 0, true);
        x.check(3, 0, true);
        a.due("raise(2, 0)", x.raise(2, 0), 0);
        a.due("ends(): it isn't fatal", x.ends(), false);
        a.each("status(3, _)", 0, code -> x.status(3, code), 10, 49, 50, 99);
        a.due("ends(): statuses", x.ends(), false);
        a.due("count(3)", x.count(3), 0);
        a.due("raise(1, 0): goes on", x.raise(1, 0), 1);
        a.due("raise(3, 0)", x.raise(3, 0), 0);
        a.due("ends(): it is fatal", x.ends(), true);
        DeclarativeRows y = new DeclarativeRows();
        y.exception(1, 0);
        y.check(1, 0, true);
        y.use(0, 1);
        a.due("raise(1, 0): fatal, with a taker", y.raise(1, 0), 1);
        a.due("ends(): it has a taker", y.ends(), false);
    }

    private static void eleventhEndsTheUnit() {
        a.part("When an 11th would run, the unit ends, too");
        DeclarativeRows x = Rows.running(11, 10);
        a.due("ends(): 10 run", x.ends(), false);
        a.due("raise(11, 0)", x.raise(11, 0), 0);
        a.due("ends(): an 11th would run", x.ends(), true);
        a.due("count(3)", x.count(3), 10);
        DeclarativeRows y = Rows.running(10, 10);
        y.use(1, 0);
        a.due("status(1, 10): none would run", y.status(1, 10), 0);
        a.due("ends()", y.ends(), false);
        a.due("status(0, 10)", y.status(0, 10), 0);
        a.due("ends(): an 11th by a status", y.ends(), true);
    }

    private static void endedRaisesNothing() {
        a.part("Once it has ended nothing is raised any more");
        Rows.ended().forEach((way, made) -> {
            DeclarativeRows x = made.get();
            x.exception(1, 99);
            int added = x.count(0);
            x.check(added, 0, true);
            x.use(0, added);
            x.use(1, 19);
            String shown = Shown.byAsking(x);
            a.due("raise(1, 0), ended by " + way, x.raise(1, 0), -1);
            a.due("raise(.., 0) of a new one, ended by " + way, x.raise(added, 0), -1);
            a.due("status(19, 10), ended by " + way, x.status(19, 10), -1);
            a.due("the object, ended by " + way, Shown.byAsking(x), shown);
        });
    }

    private static void lastException() {
        a.part("The LAST exception: its number, place, taker, and the program that it was passed to");
        DeclarativeRows x = Rows.running(11, 10);
        last(x, "one that runs", 10, Rows.PLACE + 10, 10, NONE);
        x.propagate(3);
        last(x, "one that was passed", 10, Rows.PLACE + 10, 10, 3);
        x.status(0, 42);
        last(x, "a status without a taker", -42, 0, 0, NONE);
        x.raise(11, 77);
        last(x, "one that had no room", 11, 77, 11, NONE);
        DeclarativeRows y = Rows.running(2, 2);
        y.raise(1, 78);
        last(y, "one that was barred", 1, 78, 1, NONE);
        DeclarativeRows z = Rows.chain();
        z.raise(2, 79);
        last(z, "one without a taker", 2, 79, 0, NONE);
        z.use(1, 5);
        z.status(5, 99);
        last(z, "a status with a taker", -99, 0, 1, NONE);
    }

    private static void last(DeclarativeRows x, String which, int... due) {
        for (int what = 0; what < due.length; what++) {
            a.due("last(" + what + "): " + which, x.last(what), due[what]);
        }
    }
}
