import java.util.function.Supplier;

/** Everything that calls show of an object, as one text, so that two objects can be compared. */
final class Shown {
    private static final int[] PLACES = {0, 1, 50, 93, 100, 101, 9999};

    private Shown() { }

    /** By the calls that only ask: at most 82 of them. */
    static String byAsking(DeclarativeRows x) {
        StringBuilder text = new StringBuilder("counts");
        for (int what = 0; what <= 5; what++) {
            text.append(' ').append(x.count(what));
        }
        text.append("; last");
        for (int what = 0; what <= 3; what++) {
            text.append(' ').append(x.last(what));
        }
        text.append("; taken");
        for (int i = 0; i <= 10; i++) {
            text.append(' ').append(x.taken(i));
        }
        text.append("; nested");
        for (int e = 1; e <= Math.min(x.count(0), 60); e++) {
            text.append(' ').append(x.nested(e));
        }
        return text.append("; ends ").append(x.ends()).toString();
    }

    /** By all calls: those that change something get an object of their own. */
    static String byCalling(Supplier<DeclarativeRows> made) {
        StringBuilder text = new StringBuilder(byAsking(made.get()));
        places(made.get(), text);
        checksAndTakers(made, text);
        files(made, text);
        newExceptions(made, text);
        DeclarativeRows x = made.get();
        text.append("; propagate ").append(x.propagate(7)).append(' ').append(x.last(3));
        return text.toString();
    }

    private static void places(DeclarativeRows x, StringBuilder text) {
        text.append("; resume");
        for (int i = 0; i <= 10; i++) {
            text.append(' ').append(x.resume(x.taken(0), 0));
        }
    }

    private static void checksAndTakers(Supplier<DeclarativeRows> made, StringBuilder text) {
        int last = made.get().count(0);
        for (int e = 1; e <= last; e++) {
            text.append("; raise ").append(e);
            raised(made, e, text);
        }
    }

    private static void raised(Supplier<DeclarativeRows> made, int exception, StringBuilder text) {
        for (int place : PLACES) {
            DeclarativeRows x = made.get();
            text.append(' ').append(x.raise(exception, place)).append('/').append(x.last(2)).append('/').append(x.ends());
        }
    }

    private static void files(Supplier<DeclarativeRows> made, StringBuilder text) {
        text.append("; status");
        for (int file = 0; file < 20; file++) {
            DeclarativeRows x = made.get();
            text.append(' ').append(x.status(file, 10)).append('/').append(x.last(2));
        }
    }

    /** What a new exception would be below shows by its checks and its taker. */
    private static void newExceptions(Supplier<DeclarativeRows> made, StringBuilder text) {
        for (int level = 1; level <= 3; level++) {
            int of = level;
            int number = made.get().exception(of, 50);
            text.append("; new ").append(number);
            raised(() -> {
                DeclarativeRows x = made.get();
                x.exception(of, 50);
                return x;
            }, number, text);
        }
    }
}
