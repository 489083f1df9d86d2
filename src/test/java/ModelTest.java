import java.util.ArrayDeque;
import java.util.ArrayList;
import java.util.Deque;
import java.util.HashMap;
import java.util.List;
import java.util.Map;
import java.util.Random;
import java.util.TreeMap;

/** Random runs with fixed seeds, each call answered by the class and by a plain model of the document. */
public final class ModelTest {
    private static final int RUNS = 6000;
    private static final int CALLS = 512;
    private static final int MOST_SHOWN = 20;

    private record Thrown(int level, int name, int above) { }

    private record Check(int of, int from, boolean on) { }

    private record Use(int kind, int of) { }

    private record Run(int use, int place) { }

    /** The document again, with the library's collections and without a thought for room. */
    private static final class Model {
        final List<Thrown> exceptions = new ArrayList<>();
        final List<Check> checks = new ArrayList<>();
        final List<Use> uses = new ArrayList<>();
        final Deque<Run> running = new ArrayDeque<>();
        final Map<Integer, Integer> modes = new HashMap<>();
        int[] last = null;
        int raised = 0;
        int untaken = 0;
        boolean ended = false;

        boolean known(int e) {
            return e >= 1 && e <= exceptions.size();
        }

        boolean in(int value, int from, int to) {
            return from <= value && value <= to;
        }

        /** The exception and those above it, itself first. */
        List<Integer> line(int e) {
            List<Integer> line = new ArrayList<>();
            for (int at = e; at != 0; at = exceptions.get(at - 1).above()) {
                line.add(at);
            }
            return line;
        }

        int exception(int level, int name) {
            if (!in(level, 1, 3) || !in(name, 0, 99)) {
                return -4;
            }
            int above = 0;
            for (int e = 1; e <= exceptions.size(); e++) {
                if (exceptions.get(e - 1).level() == level - 1) {
                    above = e;
                }
            }
            if (level != 1 && above == 0) {
                return -2;
            }
            if (exceptions.size() == 60) {
                return -1;
            }
            exceptions.add(new Thrown(level, name, above));
            return exceptions.size();
        }

        int use(int kind, int of) {
            if (!in(kind, 0, 2) || kind == 1 && !in(of, 0, 19) || kind == 2 && !in(of, 0, 3)) {
                return -4;
            }
            if (kind == 0 && !known(of)) {
                return -2;
            }
            if (uses.size() == 30) {
                return -1;
            }
            uses.add(new Use(kind, of));
            return uses.size();
        }

        int check(int e, int from, boolean on) {
            if (!known(e)) {
                return -2;
            }
            if (!in(from, 0, 9999)) {
                return -4;
            }
            if (checks.size() == 100) {
                return -1;
            }
            checks.add(new Check(e, from, on));
            return checks.size();
        }

        boolean checked(int e, int place) {
            TreeMap<Integer, Boolean> latestByPlace = new TreeMap<>();
            for (Check c : checks) {
                if (line(e).contains(c.of())) {
                    latestByPlace.put(c.from(), c.on());
                }
            }
            Map.Entry<Integer, Boolean> nearest = latestByPlace.floorEntry(place);
            return nearest != null && nearest.getValue();
        }

        int taker(int e) {
            for (int at : line(e)) {
                int use = uses.indexOf(new Use(0, at)) + 1;
                if (use > 0) {
                    return use;
                }
            }
            return 0;
        }

        boolean runs(int use) {
            return running.stream().anyMatch(r -> r.use() == use);
        }

        int come(int number, int place, int taker, boolean fatal) {
            last = new int[] {number, place, taker, -1};
            raised++;
            if (taker == 0) {
                untaken++;
                ended |= fatal;
                return 0;
            }
            if (runs(taker) || running.size() == 10) {
                ended = true;
                return 0;
            }
            running.push(new Run(taker, place));
            return taker;
        }

        int raise(int e, int place) {
            if (!known(e)) {
                return -2;
            }
            if (!in(place, 0, 9999)) {
                return -4;
            }
            if (ended || !checked(e, place)) {
                return -1;
            }
            return come(e, place, taker(e), exceptions.get(e - 1).name() < 50);
        }

        int taken(int i) {
            return in(i, 0, running.size() - 1) ? new ArrayList<>(running).get(i).use() : 0;
        }

        int resume(int use, int to) {
            if (!in(to, 0, 9999)) {
                return -4;
            }
            if (ended) {
                return -5;
            }
            if (running.isEmpty() || running.peek().use() != use) {
                return 0;
            }
            int place = running.pop().place();
            return to != 0 ? to : place + 1;
        }

        int nested(int e) {
            return !known(e) ? -2 : runs(taker(e)) ? 1 : 0;
        }

        int propagate(int program) {
            if (!in(program, 0, 99)) {
                return -4;
            }
            if (last == null || last[0] < 0 || last[3] != -1) {
                return 0;
            }
            last[3] = program;
            return last[0];
        }

        int last(int what) {
            return last != null && in(what, 0, 3) ? last[what] : -1;
        }

        int status(int file, int code) {
            if (!in(file, 0, 19)) {
                return -2;
            }
            if (!in(code, 0, 99)) {
                return -4;
            }
            if (ended || code < 10) {
                return -1;
            }
            int taker = uses.indexOf(new Use(1, file)) + 1;
            if (taker == 0 && modes.containsKey(file)) {
                taker = uses.indexOf(new Use(2, modes.get(file))) + 1;
            }
            return come(-code, 0, taker, false);
        }

        int mode(int file, int mode) {
            if (!in(file, 0, 19)) {
                return -2;
            }
            if (!in(mode, -1, 3)) {
                return -4;
            }
            if (mode == -1) {
                modes.remove(file);
            } else {
                modes.put(file, mode);
            }
            return 1;
        }

        int count(int what) {
            int[] counts = {exceptions.size(), checks.size(), uses.size(), running.size(), raised, untaken};
            return in(what, 0, 5) ? counts[what] : -1;
        }
    }

    private static final Answers a = new Answers();
    private static int mostRunning = 0;
    private static int endedRuns = 0;

    public static void main(String[] args) {
        for (int seed = 1; seed <= RUNS && a.wrong() < MOST_SHOWN; seed++) {
            a.part("seed " + seed);
            run(new Random(seed));
        }
        a.part("what the runs reached");
        a.due("a full row of running ones", mostRunning, 10);
        a.due("some units ended", endedRuns > RUNS / 10, true);
        a.due("some units did not end", endedRuns < RUNS * 9 / 10, true);
        a.finish();
    }

    private static void run(Random random) {
        DeclarativeRows x = new DeclarativeRows();
        Model m = new Model();
        Arguments some = new Arguments(random, m);
        for (int call = 0; call < CALLS && a.wrong() < MOST_SHOWN; call += 2) {
            // The first calls build a state, the later ones mostly use it.
            if (random.nextInt(CALLS) > call || random.nextInt(8) == 0) {
                build(x, m, some, random.nextInt(4));
            } else {
                move(x, m, some, random.nextInt(4));
            }
            ask(x, m, some, random.nextInt(6));
            mostRunning = Math.max(mostRunning, m.running.size());
        }
        endedRuns += m.ended ? 1 : 0;
    }

    private static void build(DeclarativeRows x, Model m, Arguments some, int which) {
        int p;
        int q;
        switch (which) {
            case 0:
                p = some.near(1, 3);
                q = some.name();
                a.due("exception(" + p + ", " + q + ")", x.exception(p, q), m.exception(p, q));
                break;
            case 1:
                p = some.near(0, 2);
                q = p == 0 ? some.exception() : p == 1 ? some.near(0, 19) : some.near(0, 3);
                a.due("use(" + p + ", " + q + ")", x.use(p, q), m.use(p, q));
                break;
            case 2:
                p = some.exception();
                q = some.place();
                boolean on = some.mostly();
                a.due("check(" + p + ", " + q + ", " + on + ")", x.check(p, q, on), m.check(p, q, on));
                break;
            default:
                p = some.near(0, 19);
                q = some.near(-1, 3);
                a.due("mode(" + p + ", " + q + ")", x.mode(p, q), m.mode(p, q));
                break;
        }
    }

    private static void move(DeclarativeRows x, Model m, Arguments some, int which) {
        int p;
        int q;
        switch (which) {
            case 0:
                p = some.freeException();
                q = some.place();
                a.due("raise(" + p + ", " + q + ")", x.raise(p, q), m.raise(p, q));
                break;
            case 1:
                p = some.near(0, 19);
                q = some.mostly() ? some.near(0, 9) : some.near(0, 99);
                a.due("status(" + p + ", " + q + ")", x.status(p, q), m.status(p, q));
                break;
            case 2:
                p = some.mostly() ? m.taken(0) : some.near(0, 31);
                q = some.mostly() ? 0 : some.place();
                a.due("resume(" + p + ", " + q + ")", x.resume(p, q), m.resume(p, q));
                break;
            default:
                p = some.near(0, 99);
                a.due("propagate(" + p + ")", x.propagate(p), m.propagate(p));
                break;
        }
    }

    private static void ask(DeclarativeRows x, Model m, Arguments some, int which) {
        int p;
        switch (which) {
            case 0:
                p = some.near(0, 10);
                a.due("taken(" + p + ")", x.taken(p), m.taken(p));
                break;
            case 1:
                p = some.exception();
                a.due("nested(" + p + ")", x.nested(p), m.nested(p));
                break;
            case 2:
            case 3:
                p = some.near(0, 3);
                a.due("last(" + p + ")", x.last(p), m.last(p));
                break;
            case 4:
                a.due("ends()", x.ends(), m.ended);
                break;
            default:
                p = some.near(0, 5);
                a.due("count(" + p + ")", x.count(p), m.count(p));
                break;
        }
    }

    /** Arguments that are mostly right, so that runs come far, and sometimes just beside or far off. */
    private static final class Arguments {
        private final Random random;
        private final Model m;
        private final int tame;
        private final int places;

        Arguments(Random random, Model m) {
            this.random = random;
            this.m = m;
            tame = random.nextInt(4);
            places = random.nextBoolean() ? 4 : 9999;
        }

        boolean mostly() {
            return random.nextInt(4) != 0;
        }

        int near(int from, int to) {
            if (random.nextInt(400) == 0) {
                return random.nextInt();
            }
            int beside = random.nextInt(12) == 0 ? 1 : 0;
            return from - beside + random.nextInt(to - from + 1 + 2 * beside);
        }

        int name() {
            return tame > 0 ? near(50, 99) : near(0, 99);
        }

        int place() {
            return random.nextInt(8) == 0 ? near(0, 9999) : near(0, places);
        }

        int exception() {
            return near(1, Math.max(1, m.exceptions.size()));
        }

        /** In tame runs one that would not be barred, if a few tries find one. */
        int freeException() {
            int e = exception();
            for (int i = 0; i < 4 * tame && m.nested(e) == 1; i++) {
                e = exception();
            }
            return e;
        }
    }
}
