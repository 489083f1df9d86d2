/** The bounds of uses: how many, their kinds and what they are for, the first told, none. */
public final class UseBoundsTest {
    private static final int NONE = DeclarativeRows.NONE;
    private static final Answers a = new Answers();

    public static void main(String[] args) {
        usesAreAtMost30();
        the31stIsRefused();
        the31stTakesNothing();
        the30thTakes();
        kindIs0To2();
        exceptionMustBeThere();
        fileIs0To19();
        modeIs0To3();
        firstToldForAnException();
        firstToldForAFile();
        firstToldForAMode();
        elseTheOneAbove();
        notTheOneBelowOrBeside();
        otherKindsDoNotTake();
        noneForAnException();
        noneForAStatus();
        a.finish();
    }

    private static void usesAreAtMost30() {
        a.part("Terms: USES numbered from 1 on (at most 30)");
        DeclarativeRows x = Rows.chain();
        for (int number = 1; number <= 30; number++) {
            a.due("use " + number, x.use(number % 3, 1 + number % 3), number);
            a.due("count(2)", x.count(2), number);
        }
    }

    private static void the31stIsRefused() {
        a.part("Promise 3: NONE, the 31st");
        a.each("use(_, 1)", NONE, kind -> Rows.full().use(kind, 1), 0, 1, 2);
        a.each("use(0, _)", NONE, of -> Rows.full().use(0, of), 1, 60);
        a.each("use(1, _)", NONE, of -> Rows.full().use(1, of), 0, 19);
        a.each("use(2, _)", NONE, of -> Rows.full().use(2, of), 0, 3);
        a.outside("full: use(_, 1)", 0, 2, -4, kind -> Rows.full().use(kind, 1));
        a.outside("full: use(0, _)", 1, 60, -2, of -> Rows.full().use(0, of));
        a.outside("full: use(1, _)", 0, 19, -4, of -> Rows.full().use(1, of));
        a.outside("full: use(2, _)", 0, 3, -4, of -> Rows.full().use(2, of));
        DeclarativeRows x = Rows.full();
        x.use(0, 1);
        a.due("the 32nd", x.use(0, 1), NONE);
        a.due("count(2)", x.count(2), 30);
    }

    /** 30 uses for the file 0, so that what comes after is refused. */
    private static DeclarativeRows thirtyForAFile() {
        DeclarativeRows x = Rows.chain();
        for (int i = 1; i <= 30; i++) {
            x.use(1, 0);
        }
        return x;
    }

    private static void the31stTakesNothing() {
        a.part("Promise 3: the 31st takes nothing");
        DeclarativeRows x = thirtyForAFile();
        x.use(0, 1);
        a.due("raise(1, 0)", x.raise(1, 0), 0);
        x.use(1, 1);
        a.due("status(1, 10)", x.status(1, 10), 0);
        x.use(2, 2);
        x.mode(1, 2);
        a.due("status(1, 10) in mode 2", x.status(1, 10), 0);
        a.due("count(5)", x.count(5), 3);
    }

    private static void the30thTakes() {
        a.part("Terms: use 30 takes, runs, bars and is resumed");
        DeclarativeRows x = Rows.chain();
        for (int i = 1; i <= 29; i++) {
            x.use(1, 0);
        }
        a.due("use(0, 3)", x.use(0, 3), 30);
        a.due("raise(3, 4)", x.raise(3, 4), 30);
        a.due("taken(0)", x.taken(0), 30);
        a.due("last(2)", x.last(2), 30);
        a.due("nested(3)", x.nested(3), 1);
        a.due("resume(30, 0)", x.resume(30, 0), 5);
    }

    private static void kindIs0To2() {
        a.part("Promise 3: -4, kind is not 0 .. 2");
        a.each("use(_, 1)", 1, kind -> Rows.chain().use(kind, 1), 0, 1, 2);
        a.outside("use(_, 1)", 0, 2, -4, kind -> Rows.chain().use(kind, 1));
        a.outside("use(_, 0)", 0, 2, -4, kind -> Rows.chain().use(kind, 0));
        a.outside("new: use(_, 0)", 0, 2, -4, kind -> new DeclarativeRows().use(kind, 0));
    }

    private static void exceptionMustBeThere() {
        a.part("Promise 3: -2, no such exception");
        a.each("use(0, _)", 1, of -> Rows.chain().use(0, of), 1, 2, 3);
        a.outside("use(0, _)", 1, 3, -2, of -> Rows.chain().use(0, of));
        a.each("use(0, _)", -2, of -> Rows.chain().use(0, of), 60, 61);
    }

    private static void fileIs0To19() {
        a.part("Promise 3: -4, a FILE 0 .. 19");
        a.each("use(1, _)", 1, of -> new DeclarativeRows().use(1, of), 0, 1, 18, 19);
        a.outside("use(1, _)", 0, 19, -4, of -> new DeclarativeRows().use(1, of));
        for (int file : new int[] {0, 19}) {
            DeclarativeRows x = new DeclarativeRows();
            x.use(1, file);
            a.due("status(" + (19 - file) + ", 10)", x.status(19 - file, 10), 0);
            a.due("status(" + file + ", 10)", x.status(file, 10), 1);
        }
    }

    private static void modeIs0To3() {
        a.part("Promise 3: -4, a MODE 0 .. 3");
        a.each("use(2, _)", 1, of -> new DeclarativeRows().use(2, of), 0, 1, 2, 3);
        a.outside("use(2, _)", 0, 3, -4, of -> new DeclarativeRows().use(2, of));
        for (int mode : new int[] {0, 3}) {
            DeclarativeRows x = new DeclarativeRows();
            x.use(2, mode);
            x.mode(0, 3 - mode);
            x.mode(19, mode);
            a.due("status(0, 10) in mode " + (3 - mode), x.status(0, 10), 0);
            a.due("status(19, 10) in mode " + mode, x.status(19, 10), 1);
        }
    }

    private static void firstToldForAnException() {
        a.part("Terms: the first use told for it");
        DeclarativeRows x = Rows.chain();
        x.use(0, 2);
        x.use(0, 3);
        x.use(0, 3);
        a.due("raise(3, 0)", x.raise(3, 0), 2);
        a.due("nested(3): no second one is tried", x.nested(3), 1);
        a.due("raise(3, 0): no second one is tried", x.raise(3, 0), 0);
        a.due("ends()", x.ends(), true);
        a.due("last(2)", x.last(2), 2);
    }

    private static void firstToldForAFile() {
        a.part("Terms: the first one told for the file");
        DeclarativeRows x = new DeclarativeRows();
        x.use(2, 1);
        x.use(1, 5);
        x.use(1, 5);
        x.mode(5, 1);
        a.due("status(5, 10): before the mode's, though told later", x.status(5, 10), 2);
        a.due("status(5, 10): no second one is tried", x.status(5, 10), 0);
        a.due("ends()", x.ends(), true);
        a.due("last(2)", x.last(2), 2);
    }

    private static void firstToldForAMode() {
        a.part("Terms: else for the file's mode");
        DeclarativeRows x = new DeclarativeRows();
        x.use(1, 6);
        x.use(2, 1);
        x.use(2, 1);
        x.mode(5, 1);
        a.due("status(5, 10)", x.status(5, 10), 2);
        a.due("status(5, 10): no second one is tried", x.status(5, 10), 0);
        a.due("ends()", x.ends(), true);
        a.due("last(2)", x.last(2), 2);
    }

    private static void elseTheOneAbove() {
        a.part("Terms: else for the one above it, and so on");
        for (int of = 1; of <= 3; of++) {
            for (int raised = of; raised <= 3; raised++) {
                DeclarativeRows x = Rows.chain();
                x.use(0, of);
                a.due("use for " + of + ": raise(" + raised + ", 0)", x.raise(raised, 0), 1);
                a.due("nested(" + raised + ")", x.nested(raised), 1);
            }
        }
        DeclarativeRows y = Rows.chain();
        y.use(0, 1);
        y.use(0, 2);
        y.use(0, 3);
        a.due("raise(3, 0): its own, though told last", y.raise(3, 0), 3);
        a.due("raise(2, 0): its own", y.raise(2, 0), 2);
        a.due("raise(1, 0): its own", y.raise(1, 0), 1);
    }

    private static void notTheOneBelowOrBeside() {
        a.part("Terms: uses for one below or beside do not take");
        DeclarativeRows x = Rows.chain();
        x.exception(3, 50);
        x.use(0, 3);
        a.each("raise(_, 0)", 0, raised -> x.raise(raised, 0), 1, 2, 4);
        a.due("raise(3, 0)", x.raise(3, 0), 1);
        a.each("nested(_)", 0, raised -> x.nested(raised), 1, 2, 4);
        a.due("ends()", x.ends(), false);
    }

    private static void otherKindsDoNotTake() {
        a.part("Terms: a use is for an exception, a file or a mode");
        DeclarativeRows x = Rows.chain();
        x.use(0, 2);
        x.mode(2, 2);
        a.due("status(2, 10): a use for the exception 2", x.status(2, 10), 0);
        DeclarativeRows y = Rows.chain();
        y.use(1, 2);
        y.mode(3, 2);
        a.due("raise(2, 0): a use for the file 2", y.raise(2, 0), 0);
        a.due("status(3, 10) in mode 2: a use for the file 2", y.status(3, 10), 0);
        DeclarativeRows z = Rows.chain();
        z.use(2, 2);
        a.due("raise(2, 0): a use for the mode 2", z.raise(2, 0), 0);
        a.due("status(2, 10): a use for the mode 2", z.status(2, 10), 0);
    }

    private static void noneForAnException() {
        a.part("Promise 5: 0 without a taker");
        DeclarativeRows x = Rows.chain();
        a.due("raise(3, 6)", x.raise(3, 6), 0);
        a.due("last(0)", x.last(0), 3);
        a.due("last(1)", x.last(1), 6);
        a.due("last(2)", x.last(2), 0);
        a.due("count(3)", x.count(3), 0);
        a.due("taken(0)", x.taken(0), 0);
        a.due("nested(3)", x.nested(3), 0);
        a.due("count(4)", x.count(4), 1);
        a.due("count(5)", x.count(5), 1);
        a.due("resume(0, 0): no use runs", x.resume(0, 0), 0);
        a.due("ends()", x.ends(), false);
    }

    private static void noneForAStatus() {
        a.part("Promise 11: 0 without a taker");
        DeclarativeRows x = new DeclarativeRows();
        a.due("status(0, 10)", x.status(0, 10), 0);
        a.due("last(0)", x.last(0), -10);
        a.due("last(1)", x.last(1), 0);
        a.due("last(2)", x.last(2), 0);
        a.due("count(3)", x.count(3), 0);
        a.due("count(4)", x.count(4), 1);
        a.due("count(5)", x.count(5), 1);
        a.due("ends()", x.ends(), false);
    }
}
