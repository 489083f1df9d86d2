/** The bounds of checks: how many, their places, and which of them counts where. */
public final class CheckBoundsTest {
    private static final int NONE = DeclarativeRows.NONE;
    private static final Answers a = new Answers();

    public static void main(String[] args) {
        checksAreAtMost100();
        the101stIsRefused();
        the101stDoesNotCount();
        placeOfACheckIs0To9999();
        placeOfARaiseIs0To9999();
        countsFromItsPlaceOn(0);
        countsFromItsPlaceOn(1);
        countsFromItsPlaceOn(5000);
        countsFromItsPlaceOn(9998);
        countsFromItsPlaceOn(9999);
        withoutAnyItIsNotChecked();
        onlyItsOwnAndThoseAboveCount();
        theGreatestPlaceCounts();
        ofSeveralTheLatestTold();
        allOfThemOff();
        everyLevelAboveCounts();
        a.finish();
    }

    private static DeclarativeRows one() {
        DeclarativeRows x = new DeclarativeRows();
        x.exception(1, 50);
        return x;
    }

    /** A tree 1 - 2 - 3, and 4 beside it, without any check; none is fatal. */
    private static DeclarativeRows tree() {
        DeclarativeRows x = one();
        x.exception(2, 50);
        x.exception(3, 50);
        x.exception(1, 50);
        return x;
    }

    private static void checksAreAtMost100() {
        a.part("Terms: CHECKS (at most 100)");
        DeclarativeRows x = one();
        for (int many = 1; many <= 100; many++) {
            a.due("check " + many, x.check(1, 5, many % 2 == 0), many);
            a.due("count(1)", x.count(1), many);
        }
    }

    private static void the101stIsRefused() {
        a.part("Promise 4: NONE, the 101st");
        a.each("check(_, 0, true)", NONE, e -> Rows.full().check(e, 0, true), 1, 60);
        a.each("check(1, _, true)", NONE, from -> Rows.full().check(1, from, true), 0, 9999);
        a.each("check(1, _, false)", NONE, from -> Rows.full().check(1, from, false), 0, 9999);
        a.outside("full: check(_, 0, true)", 1, 60, -2, e -> Rows.full().check(e, 0, true));
        a.outside("full: check(1, _, true)", 0, 9999, -4, from -> Rows.full().check(1, from, true));
        DeclarativeRows x = Rows.full();
        x.check(1, 0, true);
        a.due("the 102nd", x.check(1, 0, true), NONE);
        a.due("count(1)", x.count(1), 100);
    }

    private static void the101stDoesNotCount() {
        a.part("Promise 4: the 100th counts, the 101st does not");
        DeclarativeRows x = one();
        for (int many = 1; many <= 99; many++) {
            x.check(1, 5, false);
        }
        a.due("raise(1, 5): 99 off", x.raise(1, 5), -1);
        x.check(1, 5, true);
        a.due("raise(1, 5): the 100th is on", x.raise(1, 5), 0);
        x.check(1, 5, false);
        a.due("raise(1, 5): the 101st is off", x.raise(1, 5), 0);
    }

    private static void placeOfACheckIs0To9999() {
        a.part("Promise 4: -4, a place 0 .. 9999");
        a.each("check(1, _, true)", 1, from -> one().check(1, from, true), 0, 1, 9998, 9999);
        a.outside("check(1, _, true)", 0, 9999, -4, from -> one().check(1, from, true));
        a.outside("check(1, _, false)", 0, 9999, -4, from -> one().check(1, from, false));
    }

    private static void placeOfARaiseIs0To9999() {
        a.part("Promise 5: -4, a place 0 .. 9999");
        a.each("raise(1, _)", 1, place -> Rows.pairs(1).raise(1, place), 0, 1, 9998, 9999);
        a.outside("raise(1, _)", 0, 9999, -4, place -> Rows.pairs(1).raise(1, place));
        a.outside("not checked: raise(1, _)", 0, 9999, -4, place -> one().raise(1, place));
    }

    private static void countsFromItsPlaceOn(int from) {
        a.part("Terms: places not behind that place, from " + from);
        DeclarativeRows x = one();
        x.check(1, from, true);
        for (int place : new int[] {0, from - 1, from, from + 1, 9999}) {
            if (place >= 0 && place <= 9999) {
                a.due("raise(1, " + place + ")", x.raise(1, place), place >= from ? 0 : -1);
            }
        }
    }

    private static void withoutAnyItIsNotChecked() {
        a.part("Terms: without one it is not");
        a.each("raise(1, _)", -1, place -> one().raise(1, place), 0, 1, 9999);
        DeclarativeRows x = one();
        x.raise(1, 0);
        a.due("count(4)", x.count(4), 0);
        a.due("last(0)", x.last(0), NONE);
    }

    private static void onlyItsOwnAndThoseAboveCount() {
        a.part("Terms: of the checks of it and of those above it");
        for (int of = 1; of <= 4; of++) {
            for (int raised = 1; raised <= 4; raised++) {
                DeclarativeRows x = tree();
                x.check(of, 0, true);
                boolean counts = raised == of || raised < 4 && of < raised;
                a.due("check of " + of + ": raise(" + raised + ", 0)", x.raise(raised, 0), counts ? 0 : -1);
            }
        }
    }

    private static void theGreatestPlaceCounts() {
        a.part("Terms: the one with the greatest place");
        DeclarativeRows x = tree();
        x.check(1, 20, false);
        x.check(3, 10, true);
        x.check(2, 30, true);
        x.check(3, 5, false);
        x.check(4, 21, true);
        a.each("raise(3, _)", -1, place -> x.raise(3, place), 0, 4, 5, 9, 20, 21, 29);
        a.each("raise(3, _)", 0, place -> x.raise(3, place), 10, 19, 30, 9999);
        DeclarativeRows y = tree();
        y.check(1, 9999, false);
        y.check(1, 9998, true);
        a.due("raise(1, 9997)", y.raise(1, 9997), -1);
        a.due("raise(1, 9998)", y.raise(1, 9998), 0);
        a.due("raise(1, 9999): told earlier, but greater", y.raise(1, 9999), -1);
    }

    private static void ofSeveralTheLatestTold() {
        a.part("Terms: of several the latest told");
        for (int place : new int[] {0, 7, 9999}) {
            for (int first = 1; first <= 3; first++) {
                for (int second = 1; second <= 3; second++) {
                    DeclarativeRows x = tree();
                    x.check(first, place, true);
                    x.check(second, place, false);
                    a.due(first + ", then " + second + " off: raise(3, 9999)", x.raise(3, 9999), -1);
                    x.check(first, place, true);
                    a.due(first + " on again: raise(3, " + place + ")", x.raise(3, place), 0);
                }
            }
        }
    }

    private static void allOfThemOff() {
        a.part("Terms: on or off");
        DeclarativeRows x = tree();
        x.check(1, 0, false);
        x.check(2, 1, false);
        x.check(3, 2, false);
        a.each("raise(3, _)", -1, place -> x.raise(3, place), 0, 1, 2, 9999);
        a.due("count(4)", x.count(4), 0);
    }

    private static void everyLevelAboveCounts() {
        a.part("Terms: a check of each level above");
        DeclarativeRows x = tree();
        x.check(1, 10, true);
        a.due("raise(3, 10): two above", x.raise(3, 10), 0);
        x.check(2, 11, false);
        a.due("raise(3, 11): one above", x.raise(3, 11), -1);
        a.due("raise(1, 11): one below does not count", x.raise(1, 11), 0);
        x.check(3, 12, true);
        a.due("raise(3, 12): its own", x.raise(3, 12), 0);
        a.due("raise(2, 12): one below does not count", x.raise(2, 12), -1);
    }
}
