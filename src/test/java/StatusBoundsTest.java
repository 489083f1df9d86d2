/** The bounds of statuses, files and modes. */
public final class StatusBoundsTest {
    private static final int NONE = DeclarativeRows.NONE;
    private static final Answers a = new Answers();

    public static void main(String[] args) {
        codeIs0To99();
        below10DoesNotCome();
        from10OnItComes();
        fileOfAStatusIs0To19();
        fileOfAModeIs0To19();
        modeIsNoneOr0To3();
        withoutAModeAtFirst();
        noneClosesAFile();
        eachFileHasItsOwnMode();
        theLatestModeCounts();
        refusedModeChangesNothing();
        needsNoCheck();
        withoutTakerItIsPassedOver();
        comesAtPlace0();
        a.finish();
    }

    private static DeclarativeRows made() {
        return new DeclarativeRows();
    }

    /** Use 1 .. 4 for the modes 0 .. 3. */
    private static DeclarativeRows usesForModes() {
        DeclarativeRows x = made();
        for (int mode = 0; mode < 4; mode++) {
            x.use(2, mode);
        }
        return x;
    }

    private static void codeIs0To99() {
        a.part("Promise 11: -4, a status 0 .. 99");
        a.due("status(0, 0)", made().status(0, 0), -1);
        a.due("status(0, 99)", made().status(0, 99), 0);
        a.outside("status(0, _)", 0, 99, -4, code -> made().status(0, code));
        a.outside("status(19, _)", 0, 99, -4, code -> made().status(19, code));
    }

    private static void below10DoesNotCome() {
        a.part("Promise 11: -1, it is below 10");
        DeclarativeRows x = made();
        x.use(1, 3);
        for (int code = 0; code <= 9; code++) {
            a.due("status(3, " + code + ")", x.status(3, code), -1);
        }
        a.due("count(3)", x.count(3), 0);
        a.due("count(4)", x.count(4), 0);
        a.due("count(5)", x.count(5), 0);
        a.due("last(0)", x.last(0), NONE);
    }

    private static void from10OnItComes() {
        a.part("Promise 11: from 10 on it comes");
        for (int code = 10; code <= 99; code++) {
            DeclarativeRows x = made();
            x.use(1, 3);
            a.due("status(3, " + code + ")", x.status(3, code), 1);
            a.due("last(0)", x.last(0), -code);
            a.due("count(4)", x.count(4), 1);
        }
    }

    private static void fileOfAStatusIs0To19() {
        a.part("Promise 11: -2, no such file");
        a.each("status(_, 10)", 0, file -> made().status(file, 10), 0, 1, 18, 19);
        a.outside("status(_, 10)", 0, 19, -2, file -> made().status(file, 10));
        a.outside("status(_, 9)", 0, 19, -2, file -> made().status(file, 9));
    }

    private static void fileOfAModeIs0To19() {
        a.part("Promise 12: -2, no such file");
        a.each("mode(_, 0)", 1, file -> made().mode(file, 0), 0, 1, 18, 19);
        a.outside("mode(_, 0)", 0, 19, -2, file -> made().mode(file, 0));
        a.outside("mode(_, NONE)", 0, 19, -2, file -> made().mode(file, NONE));
    }

    private static void modeIsNoneOr0To3() {
        a.part("Promise 12: -4, a mode 0 .. 3 or NONE");
        for (int file : new int[] {0, 19}) {
            a.each("mode(" + file + ", _)", 1, mode -> made().mode(file, mode), NONE, 0, 1, 2, 3);
            a.outside("mode(" + file + ", _)", NONE, 3, -4, mode -> made().mode(file, mode));
        }
    }

    private static void withoutAModeAtFirst() {
        a.part("Terms: the file's mode, if it has one (none at first)");
        a.each("status(_, 10)", 0, file -> usesForModes().status(file, 10), 0, 1, 18, 19);
    }

    private static void noneClosesAFile() {
        a.part("Promise 12: NONE, it isn't open");
        for (int mode = 0; mode <= 3; mode++) {
            DeclarativeRows x = usesForModes();
            a.due("mode(7, " + mode + ")", x.mode(7, mode), 1);
            a.due("status(7, 10)", x.status(7, 10), mode + 1);
            a.due("mode(7, NONE)", x.mode(7, NONE), 1);
            a.due("status(7, 10)", x.status(7, 10), 0);
            a.due("ends(): not barred", x.ends(), false);
            a.due("mode(7, NONE) again", x.mode(7, NONE), 1);
        }
    }

    private static void eachFileHasItsOwnMode() {
        a.part("Promise 12: each file has its own mode");
        DeclarativeRows x = usesForModes();
        x.mode(0, 3);
        x.mode(19, 0);
        a.due("status(1, 10)", x.status(1, 10), 0);
        a.due("status(18, 10)", x.status(18, 10), 0);
        a.due("status(0, 10)", x.status(0, 10), 4);
        a.due("status(19, 10)", x.status(19, 10), 1);
    }

    private static void theLatestModeCounts() {
        a.part("Promise 12: the mode is the latest told");
        DeclarativeRows x = usesForModes();
        x.mode(5, 1);
        x.mode(5, 1);
        x.mode(5, 2);
        a.due("status(5, 10)", x.status(5, 10), 3);
        x.mode(5, 1);
        a.due("status(5, 10)", x.status(5, 10), 2);
    }

    private static void refusedModeChangesNothing() {
        a.part("Promise 12: a refused mode changes nothing");
        DeclarativeRows x = usesForModes();
        x.mode(5, 1);
        a.outside("mode(5, _)", NONE, 3, -4, mode -> x.mode(5, mode));
        a.due("status(5, 10)", x.status(5, 10), 2);
        a.outside("mode(6, _)", NONE, 3, -4, mode -> x.mode(6, mode));
        a.due("status(6, 10)", x.status(6, 10), 0);
    }

    private static void needsNoCheck() {
        a.part("Promise 11: a status needs no check");
        DeclarativeRows x = made();
        x.exception(1, 50);
        x.check(1, 0, false);
        x.use(1, 1);
        a.due("status(1, 10)", x.status(1, 10), 1);
    }

    private static void withoutTakerItIsPassedOver() {
        a.part("Terms: statuses are passed over");
        DeclarativeRows x = made();
        for (int code = 10; code <= 99; code++) {
            a.due("status(2, " + code + ")", x.status(2, code), 0);
        }
        a.due("ends()", x.ends(), false);
        a.due("count(4)", x.count(4), 90);
        a.due("count(5)", x.count(5), 90);
    }

    private static void comesAtPlace0() {
        a.part("Promise 11: at place 0");
        DeclarativeRows x = made();
        x.use(1, 1);
        x.status(1, 99);
        a.due("last(1)", x.last(1), 0);
        a.due("resume(1, 0)", x.resume(1, 0), 1);
    }
}
