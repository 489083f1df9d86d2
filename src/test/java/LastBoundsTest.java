/** The bounds of the last exception and of the program that it is passed to. */
public final class LastBoundsTest {
    private static final int NONE = DeclarativeRows.NONE;
    private static final Answers a = new Answers();

    public static void main(String[] args) {
        noneYet();
        notReplacedByWhatDoesNotCome();
        numberOfAnException();
        numberOfAStatus();
        placeOfTheLast();
        takerThatRuns();
        takerThatWasBarred();
        takerThatHadNoRoom();
        takerNone();
        staysWhenResumed();
        programIs0To99();
        programNoneAtFirst();
        passedAlready();
        aNewOneCanBePassed();
        aStatusCannotBePassed();
        whatEndedTheUnitCanBePassed();
        a.finish();
    }

    private static void last(DeclarativeRows x, int number, int place, int taker, int program) {
        a.due("last(0)", x.last(0), number);
        a.due("last(1)", x.last(1), place);
        a.due("last(2)", x.last(2), taker);
        a.due("last(3)", x.last(3), program);
    }

    private static void noneYet() {
        a.part("Promises 9, 10: without one");
        DeclarativeRows x = Rows.pairs(2);
        last(x, NONE, NONE, NONE, NONE);
        a.each("propagate(_)", 0, program -> Rows.pairs(2).propagate(program), 0, 99);
        a.outside("propagate(_)", 0, 99, -4, program -> Rows.pairs(2).propagate(program));
        x.propagate(5);
        last(x, NONE, NONE, NONE, NONE);
        x.raise(1, 6);
        a.due("what was passed before is not passed already", x.propagate(7), 1);
    }

    private static void notReplacedByWhatDoesNotCome() {
        a.part("Promise 10: what does not come is not the last");
        DeclarativeRows x = Rows.running(3, 1);
        x.propagate(8);
        x.check(2, 0, false);
        a.due("raise(2, 0): not checked", x.raise(2, 0), -1);
        a.due("raise(4, 0)", x.raise(4, 0), -2);
        a.due("raise(3, 10000)", x.raise(3, 10000), -4);
        a.due("status(0, 9)", x.status(0, 9), -1);
        a.due("status(20, 10)", x.status(20, 10), -2);
        a.due("status(0, 100)", x.status(0, 100), -4);
        last(x, 1, Rows.PLACE + 1, 1, 8);
    }

    private static void numberOfAnException() {
        a.part("Promise 10: what = 0, its number");
        DeclarativeRows x = Rows.full();
        x.resume(x.taken(0), 0);
        a.due("raise(60, 9999)", x.raise(60, 9999), 20);
        last(x, 60, 9999, 20, NONE);
        DeclarativeRows y = Rows.chain();
        y.raise(1, 0);
        last(y, 1, 0, 0, NONE);
    }

    private static void numberOfAStatus() {
        a.part("Terms: minus its code for a status");
        for (int code = 10; code <= 99; code++) {
            DeclarativeRows x = new DeclarativeRows();
            x.status(19, code);
            last(x, -code, 0, 0, NONE);
        }
    }

    private static void placeOfTheLast() {
        a.part("Promise 10: what = 1, its place");
        for (int place : new int[] {0, 1, 9998, 9999}) {
            DeclarativeRows x = Rows.pairs(1);
            x.raise(1, place);
            last(x, 1, place, 1, NONE);
        }
    }

    private static void takerThatRuns() {
        a.part("Promise 10: what = 2, its taker");
        DeclarativeRows x = Rows.running(10, 10);
        last(x, 10, Rows.PLACE + 10, 10, NONE);
    }

    private static void takerThatWasBarred() {
        a.part("Terms: taker (also one that was barred)");
        DeclarativeRows x = Rows.running(2, 2);
        x.raise(1, 9999);
        last(x, 1, 9999, 1, NONE);
        DeclarativeRows y = Rows.endedByBarredStatus();
        last(y, -21, 0, 2, NONE);
    }

    private static void takerThatHadNoRoom() {
        a.part("Terms: taker (also one that had no room)");
        last(Rows.endedByEleventh(), 11, 10, 11, NONE);
        last(Rows.endedByEleventhStatus(), -22, 0, 11, NONE);
    }

    private static void takerNone() {
        a.part("Terms: taker (0 none)");
        DeclarativeRows x = Rows.running(1, 1);
        x.exception(1, 50);
        x.check(2, 0, true);
        x.raise(2, 3);
        last(x, 2, 3, 0, NONE);
        last(Rows.endedByFatal(), 3, 8, 0, NONE);
    }

    private static void staysWhenResumed() {
        a.part("Promise 10: the last stays when its taker has ended");
        DeclarativeRows x = Rows.running(2, 2);
        x.propagate(4);
        x.resume(2, 77);
        x.resume(1, 0);
        last(x, 2, Rows.PLACE + 2, 2, 4);
    }

    private static void programIs0To99() {
        a.part("Promise 9: a program 0 .. 99");
        a.each("propagate(_)", 1, program -> Rows.running(1, 1).propagate(program), 0, 1, 98, 99);
        a.outside("propagate(_)", 0, 99, -4, program -> Rows.running(1, 1).propagate(program));
        for (int program : new int[] {0, 99}) {
            DeclarativeRows x = Rows.running(1, 1);
            x.propagate(program);
            a.due("last(3)", x.last(3), program);
        }
    }

    private static void programNoneAtFirst() {
        a.part("Terms: the program that it was passed to (NONE none)");
        DeclarativeRows x = Rows.running(1, 1);
        a.due("last(3)", x.last(3), NONE);
        a.outside("propagate(_)", 0, 99, -4, program -> x.propagate(program));
        a.due("last(3): all were refused", x.last(3), NONE);
        a.due("propagate(0)", x.propagate(0), 1);
    }

    private static void passedAlready() {
        a.part("Promise 9: 0 when it was passed already");
        for (int first : new int[] {0, 99}) {
            DeclarativeRows x = Rows.running(1, 1);
            x.propagate(first);
            a.each("propagate(_)", 0, program -> x.propagate(program), 0, 1, 99);
            a.outside("propagate(_)", 0, 99, -4, program -> x.propagate(program));
            a.due("last(3)", x.last(3), first);
        }
    }

    private static void aNewOneCanBePassed() {
        a.part("Promise 9: a new one was not passed");
        DeclarativeRows x = Rows.chain();
        x.raise(2, 0);
        x.propagate(0);
        x.raise(2, 0);
        a.due("last(3): the same exception comes again", x.last(3), NONE);
        a.due("propagate(1)", x.propagate(1), 2);
        last(x, 2, 0, 0, 1);
    }

    private static void aStatusCannotBePassed() {
        a.part("Promise 9: 0 for a status");
        for (int code : new int[] {10, 99}) {
            DeclarativeRows x = Rows.chain();
            x.use(1, 2);
            x.raise(1, 5);
            x.status(2, code);
            a.each("propagate(_)", 0, program -> x.propagate(program), 0, 1, 99);
            a.outside("propagate(_)", 0, 99, -4, program -> x.propagate(program));
            last(x, -code, 0, 1, NONE);
        }
    }

    private static void whatEndedTheUnitCanBePassed() {
        a.part("Promise 9: what ended the unit is the last one");
        a.due("a fatal one", Rows.endedByFatal().propagate(99), 3);
        a.due("a barred one", Rows.endedByBarred().propagate(99), 1);
        a.due("an 11th", Rows.endedByEleventh().propagate(99), 11);
        a.due("a barred status", Rows.endedByBarredStatus().propagate(99), 0);
        a.due("an 11th by a status", Rows.endedByEleventhStatus().propagate(99), 0);
    }
}
