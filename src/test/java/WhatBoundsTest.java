import java.util.LinkedHashMap;
import java.util.Map;
import java.util.function.Supplier;

/** what = one below and one above the last that is named, and what each named one counts. */
public final class WhatBoundsTest {
    private static final int NONE = DeclarativeRows.NONE;
    private static final Answers a = new Answers();

    public static void main(String[] args) {
        Map<String, Supplier<DeclarativeRows>> states = new LinkedHashMap<>(Rows.ended());
        states.put("new", DeclarativeRows::new);
        states.put("full", Rows::full);
        states.put("ten run", () -> Rows.running(10, 10));
        states.forEach((state, made) -> {
            lastOutside(state, made);
            countOutside(state, made);
        });
        countsOfANewObject();
        countsOfAFullObject();
        raisedInAll();
        ofTheseWithoutATaker();
        all512CallsAreAnswered();
        a.finish();
    }

    private static void lastOutside(String state, Supplier<DeclarativeRows> made) {
        a.part("Promise 10: NONE for others, " + state);
        a.outside("last(_)", 0, 3, NONE, what -> made.get().last(what));
    }

    private static void countOutside(String state, Supplier<DeclarativeRows> made) {
        a.part("Promise 14: NONE for others, " + state);
        a.outside("count(_)", 0, 5, NONE, what -> made.get().count(what));
    }

    private static void counts(DeclarativeRows x, int... due) {
        for (int what = 0; what < due.length; what++) {
            a.due("count(" + what + ")", x.count(what), due[what]);
        }
    }

    private static void countsOfANewObject() {
        a.part("Promise 14: nothing");
        counts(new DeclarativeRows(), 0, 0, 0, 0, 0, 0);
    }

    private static void countsOfAFullObject() {
        a.part("Promise 14: as many as there can be");
        counts(Rows.full(), 60, 100, 30, 10, 10, 0);
    }

    private static void raisedInAll() {
        a.part("Promise 14: what = 4, raised in all (statuses too; also what ended the unit)");
        DeclarativeRows x = Rows.pairs(2);
        x.check(2, 10, false);
        x.raise(2, 10);
        x.status(0, 9);
        a.due("count(4): what does not come", x.count(4), 0);
        x.raise(1, 0);
        a.due("count(4): an exception", x.count(4), 1);
        x.status(0, 10);
        a.due("count(4): a status", x.count(4), 2);
        x.resume(1, 0);
        a.due("count(4): resumed", x.count(4), 2);
        x.raise(1, 0);
        x.raise(1, 0);
        a.due("count(4): what ended the unit", x.count(4), 4);
        x.raise(2, 0);
        x.status(0, 10);
        a.due("count(4): after the end", x.count(4), 4);
        a.part("Promise 14: what = 4, each way to end");
        a.due("a fatal one", Rows.endedByFatal().count(4), 2);
        a.due("a barred one", Rows.endedByBarred().count(4), 3);
        a.due("an 11th", Rows.endedByEleventh().count(4), 11);
        a.due("a barred status", Rows.endedByBarredStatus().count(4), 2);
        a.due("an 11th by a status", Rows.endedByEleventhStatus().count(4), 11);
    }

    private static void ofTheseWithoutATaker() {
        a.part("Promise 14: what = 5, of these without a taker");
        DeclarativeRows x = Rows.chain();
        x.use(0, 3);
        x.raise(3, 0);
        a.due("count(5): taken", x.count(5), 0);
        x.raise(2, 0);
        a.due("count(5): not taken", x.count(5), 1);
        x.status(0, 10);
        a.due("count(5): a status, not taken", x.count(5), 2);
        x.raise(3, 0);
        a.due("count(5): barred", x.count(5), 2);
        a.due("a fatal one", Rows.endedByFatal().count(5), 1);
        a.due("an 11th", Rows.endedByEleventh().count(5), 0);
        a.due("a barred status", Rows.endedByBarredStatus().count(5), 0);
        a.due("an 11th by a status", Rows.endedByEleventhStatus().count(5), 0);
    }

    private static void all512CallsAreAnswered() {
        a.part("What it is: at most 512 calls");
        DeclarativeRows x = new DeclarativeRows();
        for (int call = 1; call <= 509; call++) {
            a.due("status(19, 99), call " + call, x.status(19, 99), 0);
        }
        a.due("count(4), call 510", x.count(4), 509);
        a.due("count(5), call 511", x.count(5), 509);
        a.due("status(19, 99), call 512", x.status(19, 99), 0);
    }
}
