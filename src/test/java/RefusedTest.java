import java.util.ArrayList;
import java.util.LinkedHashMap;
import java.util.List;
import java.util.Map;
import java.util.function.IntPredicate;
import java.util.function.Supplier;

/** A refused call, and one that only asks, leaves everything that other calls show as it was. */
public final class RefusedTest {
    private static final int[] EDGES = {
        Integer.MIN_VALUE, -2, -1, 0, 1, 2, 3, 4, 5, 9, 10, 11, 19, 20, 30, 31, 60, 61, 99, 100,
        9999, 10000, Integer.MAX_VALUE
    };
    /** An object has 512 calls; making it takes up to 203 and asking for what it shows up to 82. */
    private static final int MOST_AT_ONCE = 200;

    private interface Call {
        int on(DeclarativeRows x, int p, int q);
    }

    /** A call of the face and which of its answers say that nothing is done. */
    private record Refusable(String name, Call call, IntPredicate refused) { }

    private record Given(int p, int q) { }

    private static final List<Refusable> CALLS = List.of(
        new Refusable("exception", DeclarativeRows::exception, answer -> answer < 0),
        new Refusable("use", DeclarativeRows::use, answer -> answer < 0),
        new Refusable("check on", (x, p, q) -> x.check(p, q, true), answer -> answer < 0),
        new Refusable("check off", (x, p, q) -> x.check(p, q, false), answer -> answer < 0),
        new Refusable("raise", DeclarativeRows::raise, answer -> answer < 0),
        new Refusable("taken", (x, p, q) -> x.taken(p), answer -> true),
        new Refusable("resume", DeclarativeRows::resume, answer -> answer <= 0),
        new Refusable("nested", (x, p, q) -> x.nested(p), answer -> true),
        new Refusable("propagate", (x, p, q) -> x.propagate(p), answer -> answer <= 0),
        new Refusable("last", (x, p, q) -> x.last(p), answer -> true),
        new Refusable("status", DeclarativeRows::status, answer -> answer < 0),
        new Refusable("mode", DeclarativeRows::mode, answer -> answer < 0),
        new Refusable("ends", (x, p, q) -> x.ends() ? 1 : 0, answer -> true),
        new Refusable("count", (x, p, q) -> x.count(p), answer -> true));

    private static final Answers a = new Answers();
    private static int found = 0;

    public static void main(String[] args) {
        states().forEach(RefusedTest::leavesAsItWas);
        a.part("refused calls");
        a.due("there were many", found > 10000, true);
        a.finish();
    }

    private static Map<String, Supplier<DeclarativeRows>> states() {
        Map<String, Supplier<DeclarativeRows>> states = new LinkedHashMap<>(Rows.ended());
        states.put("new", DeclarativeRows::new);
        states.put("a chain", Rows::chain);
        states.put("two of three run", () -> Rows.running(3, 2));
        states.put("an 11th could come", () -> Rows.running(11, 10));
        states.put("full", Rows::full);
        states.put("passed already", RefusedTest::passedAlready);
        states.put("a status was the last", RefusedTest::statusWasLast);
        return states;
    }

    private static DeclarativeRows passedAlready() {
        DeclarativeRows x = Rows.running(3, 1);
        x.propagate(0);
        return x;
    }

    private static DeclarativeRows statusWasLast() {
        DeclarativeRows x = Rows.chain();
        x.use(0, 1);
        x.use(2, 1);
        x.mode(3, 1);
        x.check(2, 60, false);
        x.raise(3, 50);
        x.status(3, 30);
        return x;
    }

    private static void leavesAsItWas(String state, Supplier<DeclarativeRows> made) {
        String asked = Shown.byAsking(made.get());
        String called = Shown.byCalling(made);
        for (Refusable each : CALLS) {
            a.part(state);
            List<Given> refused = refused(each, made, asked);
            found += refused.size();
            for (int from = 0; from < refused.size(); from += MOST_AT_ONCE) {
                List<Given> some = refused.subList(from, Math.min(refused.size(), from + MOST_AT_ONCE));
                a.due("after refused calls of " + each.name(), Shown.byCalling(() -> {
                    DeclarativeRows x = made.get();
                    some.forEach(given -> each.call().on(x, given.p(), given.q()));
                    return x;
                }), called);
            }
        }
    }

    /** The arguments that are refused; each by itself is looked at by the calls that only ask. */
    private static List<Given> refused(Refusable each, Supplier<DeclarativeRows> made, String asked) {
        List<Given> refused = new ArrayList<>();
        for (int p : EDGES) {
            for (int q : EDGES) {
                DeclarativeRows x = made.get();
                int answer = each.call().on(x, p, q);
                if (each.refused().test(answer)) {
                    refused.add(new Given(p, q));
                    a.due(each.name() + "(" + p + ", " + q + ") answered " + answer + " and then",
                        Shown.byAsking(x), asked);
                }
            }
        }
        return refused;
    }
}
