import java.util.LinkedHashMap;
import java.util.Map;
import java.util.function.Supplier;

/** Objects in the states from which several tests begin. */
final class Rows {
    /** The place where running() raises exception i is this plus i. */
    static final int PLACE = 100;

    private Rows() { }

    /** Exceptions 1, 2, 3 below one another, none of them fatal, checked from place 0 on. */
    static DeclarativeRows chain() {
        DeclarativeRows x = new DeclarativeRows();
        x.exception(1, 99);
        x.exception(2, 60);
        x.exception(3, 50);
        x.check(1, 0, true);
        return x;
    }

    /** As many exceptions of level 1 as told, each with a use of the same number and checked from 0 on. */
    static DeclarativeRows pairs(int many) {
        DeclarativeRows x = new DeclarativeRows();
        for (int i = 1; i <= many; i++) {
            x.exception(1, 50);
            x.use(0, i);
            x.check(i, 0, true);
        }
        return x;
    }

    /** pairs(), of which the first ones run, the last of these as the latest. */
    static DeclarativeRows running(int many, int run) {
        DeclarativeRows x = pairs(many);
        for (int i = 1; i <= run; i++) {
            x.raise(i, PLACE + i);
        }
        return x;
    }

    /** 60 exceptions, 100 checks, 30 uses (of every kind), 10 that run. */
    static DeclarativeRows full() {
        DeclarativeRows x = new DeclarativeRows();
        for (int i = 0; i < 60; i++) {
            x.exception(1 + i % 3, 50 + i % 50);
        }
        for (int i = 0; i < 20; i++) {
            x.use(0, 1 + 3 * i);
        }
        for (int i = 0; i < 8; i++) {
            x.use(1, i);
        }
        x.use(2, 0);
        x.use(2, 3);
        for (int i = 0; i < 100; i++) {
            x.check(1 + 3 * (i % 20), i, i >= 80 || i % 7 != 6);
        }
        for (int i = 1; i <= 10; i++) {
            x.raise(3 * i, 90 + i);
        }
        x.mode(10, 0);
        x.mode(11, 3);
        return x;
    }

    static DeclarativeRows endedByFatal() {
        DeclarativeRows x = pairs(2);
        x.exception(1, 49);
        x.check(3, 0, true);
        x.raise(1, 7);
        x.raise(3, 8);
        return x;
    }

    static DeclarativeRows endedByBarred() {
        DeclarativeRows x = running(3, 2);
        x.raise(1, 9);
        return x;
    }

    static DeclarativeRows endedByEleventh() {
        DeclarativeRows x = running(11, 10);
        x.raise(11, 10);
        return x;
    }

    static DeclarativeRows endedByBarredStatus() {
        DeclarativeRows x = pairs(1);
        x.use(2, 1);
        x.mode(4, 1);
        x.status(4, 20);
        x.status(4, 21);
        return x;
    }

    static DeclarativeRows endedByEleventhStatus() {
        DeclarativeRows x = running(10, 10);
        x.use(1, 4);
        x.status(4, 22);
        return x;
    }

    static Map<String, Supplier<DeclarativeRows>> ended() {
        Map<String, Supplier<DeclarativeRows>> ways = new LinkedHashMap<>();
        ways.put("a fatal one without taker", Rows::endedByFatal);
        ways.put("a barred one", Rows::endedByBarred);
        ways.put("an 11th", Rows::endedByEleventh);
        ways.put("a barred status", Rows::endedByBarredStatus);
        ways.put("an 11th by a status", Rows::endedByEleventhStatus);
        return ways;
    }
}
