/** The bounds of exceptions: their number, level, name, what they are below, which are fatal. */
public final class ExceptionBoundsTest {
    private static final int NONE = DeclarativeRows.NONE;
    private static final Answers a = new Answers();

    public static void main(String[] args) {
        numbersAreFrom1To60();
        the61stIsRefused();
        the61stTakesNoPlace();
        levelIs1To3();
        nameIs0To99();
        level2NeedsOneOfLevel1();
        level3NeedsOneOfLevel2();
        level1NeedsNone();
        belowTheLatestTold();
        refusedOneIsNotTheLatest();
        fatalIsANameBelow50();
        fatalIsByItsOwnName();
        numbersThatAreThere(1);
        numbersThatAreThere(2);
        numbersThatAreThere(59);
        numbersThatAreThere(60);
        a.finish();
    }

    private static DeclarativeRows many(int exceptions) {
        DeclarativeRows x = new DeclarativeRows();
        for (int i = 0; i < exceptions; i++) {
            x.exception(1, 50);
        }
        return x;
    }

    private static void numbersAreFrom1To60() {
        a.part("Terms: numbered from 1 on (at most 60)");
        DeclarativeRows x = new DeclarativeRows();
        for (int number = 1; number <= 60; number++) {
            a.due("exception " + number, x.exception(1 + (number - 1) % 3, 50), number);
            a.due("count(0)", x.count(0), number);
        }
    }

    private static void the61stIsRefused() {
        a.part("Promise 2: NONE, the 61st");
        a.each("exception(_, 50)", NONE, level -> Rows.full().exception(level, 50), 1, 2, 3);
        a.each("exception(1, _)", NONE, name -> Rows.full().exception(1, name), 0, 49, 50, 99);
        DeclarativeRows x = Rows.full();
        x.exception(1, 50);
        a.due("the 62nd", x.exception(1, 50), NONE);
        a.due("count(0)", x.count(0), 60);
        a.outside("full: exception(_, 50)", 1, 3, -4, level -> Rows.full().exception(level, 50));
        a.outside("full: exception(1, _)", 0, 99, -4, name -> Rows.full().exception(1, name));
        a.due("full without a level 1 below: exception(3, 50)", many(60).exception(3, 50), -2);
    }

    private static void the61stTakesNoPlace() {
        a.part("Promise 2: the 61st is no exception");
        DeclarativeRows x = many(60);
        x.exception(1, 0);
        a.due("raise(61, 0)", x.raise(61, 0), -2);
        x.check(60, 0, true);
        a.due("raise(60, 0)", x.raise(60, 0), 0);
        a.due("ends(): the 60th is not fatal", x.ends(), false);
    }

    private static void levelIs1To3() {
        a.part("Terms: a LEVEL 1 .. 3");
        a.each("exception(_, 50)", 4, level -> Rows.chain().exception(level, 50), 1, 2, 3);
        a.outside("exception(_, 50)", 1, 3, -4, level -> Rows.chain().exception(level, 50));
        a.outside("new: exception(_, 50)", 1, 3, -4, level -> new DeclarativeRows().exception(level, 50));
    }

    private static void nameIs0To99() {
        a.part("Terms: a NAME 0 .. 99");
        for (int level = 1; level <= 3; level++) {
            int of = level;
            String call = "exception(" + level + ", _)";
            a.each(call, 4, name -> Rows.chain().exception(of, name), 0, 1, 49, 50, 98, 99);
            a.outside(call, 0, 99, -4, name -> Rows.chain().exception(of, name));
            a.outside("new: " + call, 0, 99, -4, name -> new DeclarativeRows().exception(of, name));
        }
    }

    private static void level2NeedsOneOfLevel1() {
        a.part("Promise 2: -2, level 2");
        DeclarativeRows x = new DeclarativeRows();
        a.due("exception(2, 0)", x.exception(2, 0), -2);
        a.due("exception(1, 0)", x.exception(1, 0), 1);
        a.due("exception(2, 0)", x.exception(2, 0), 2);
        a.due("exception(2, 0) again", x.exception(2, 0), 3);
    }

    private static void level3NeedsOneOfLevel2() {
        a.part("Promise 2: -2, level 3");
        DeclarativeRows x = new DeclarativeRows();
        a.due("exception(3, 0)", x.exception(3, 0), -2);
        x.exception(1, 0);
        a.due("exception(3, 0) with one of level 1", x.exception(3, 0), -2);
        x.exception(2, 0);
        a.due("exception(3, 0)", x.exception(3, 0), 3);
        a.due("exception(3, 0) again", x.exception(3, 0), 4);
    }

    private static void level1NeedsNone() {
        a.part("Promise 2: level 1 is below none");
        DeclarativeRows x = Rows.chain();
        x.exception(1, 50);
        a.due("raise(4, 9999): the checks of others are not above it", x.raise(4, 9999), -1);
        x.check(4, 0, true);
        x.use(0, 1);
        a.due("raise(4, 9999): nor are the uses", x.raise(4, 9999), 0);
    }

    /** Which one is above is shown by the use that takes. */
    private static void belowTheLatestTold() {
        a.part("Terms: BELOW the latest one of a level less by one");
        DeclarativeRows x = new DeclarativeRows();
        x.exception(1, 50);
        x.exception(2, 50);
        x.exception(3, 50);
        x.exception(2, 50);
        x.exception(1, 50);
        x.exception(3, 50);
        x.exception(2, 50);
        x.exception(3, 50);
        for (int e = 1; e <= 5; e++) {
            x.use(0, new int[] {0, 1, 2, 4, 5, 7}[e]);
        }
        x.check(1, 0, true);
        x.check(5, 0, true);
        a.due("raise(3, 0): below 2", x.raise(3, 0), 2);
        a.due("raise(6, 0): below 4", x.raise(6, 0), 3);
        a.due("raise(8, 0): below 7", x.raise(8, 0), 5);
        a.due("raise(5, 0)", x.raise(5, 0), 4);
        a.due("raise(1, 0)", x.raise(1, 0), 1);
        a.due("nested(4): its own use", x.nested(4), 1);
        a.due("ends()", x.ends(), false);
    }

    private static void refusedOneIsNotTheLatest() {
        a.part("Promise 2: a refused one is not the latest");
        DeclarativeRows x = new DeclarativeRows();
        x.exception(1, 50);
        x.use(0, 1);
        x.check(1, 0, true);
        x.exception(1, 100);
        x.exception(1, -1);
        a.due("exception(2, 50)", x.exception(2, 50), 2);
        x.exception(2, 100);
        a.due("exception(3, 50)", x.exception(3, 50), 3);
        a.due("raise(3, 0): below 2, that is below 1", x.raise(3, 0), 1);
    }

    private static void fatalIsANameBelow50() {
        a.part("Terms: FATAL are those with a name below 50");
        for (int name = 0; name <= 99; name++) {
            DeclarativeRows x = new DeclarativeRows();
            x.exception(1, name);
            x.check(1, 0, true);
            a.due("raise(1, 0)", x.raise(1, 0), 0);
            a.due("ends(), name " + name, x.ends(), name <= 49);
        }
    }

    private static void fatalIsByItsOwnName() {
        a.part("Terms: FATAL by its own name, at each level");
        for (int fatal = 1; fatal <= 3; fatal++) {
            for (int raised = 1; raised <= 3; raised++) {
                DeclarativeRows x = new DeclarativeRows();
                for (int level = 1; level <= 3; level++) {
                    x.exception(level, level == fatal ? 49 : 50);
                }
                x.check(1, 0, true);
                x.raise(raised, 0);
                a.due(raised + " raised, " + fatal + " is fatal: ends()", x.ends(), raised == fatal);
            }
        }
    }

    private static void numbersThatAreThere(int last) {
        a.part("Promises 3, 4, 5, 8: -2 no such exception, of " + last);
        a.each("use(0, _)", 1, e -> many(last).use(0, e), 1, last);
        a.outside("use(0, _)", 1, last, -2, e -> many(last).use(0, e));
        a.each("check(_, 0, true)", 1, e -> many(last).check(e, 0, true), 1, last);
        a.outside("check(_, 0, true)", 1, last, -2, e -> many(last).check(e, 0, true));
        a.each("raise(_, 0)", -1, e -> many(last).raise(e, 0), 1, last);
        a.outside("raise(_, 0)", 1, last, -2, e -> many(last).raise(e, 0));
        a.each("nested(_)", 0, e -> many(last).nested(e), 1, last);
        a.outside("nested(_)", 1, last, -2, e -> many(last).nested(e));
    }
}
