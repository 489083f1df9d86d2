/**
 * Declaratives of a run unit: exceptions, where they are checked, the uses that take them,
 * and the uses that run. The document's promises are named by number where they are kept.
 */
public final class DeclarativeRows {
    public static final int NONE = -1;

    private static final int NO_SUCH = -2;
    private static final int NOT_SO = -4;
    private static final int HAS_ENDED = -5;
    private static final int PASSED_BY = -1;
    private static final int NO_TAKER = 0;

    private static final int FOR_EXCEPTION = 0;
    private static final int FOR_FILE = 1;
    private static final int FOR_MODE = 2;

    private static final int LEVELS = 3;
    private static final int NAMES = 100;
    private static final int FATAL_NAMES = 50;
    private static final int PLACES = 10000;
    private static final int FILES = 20;
    private static final int MODES = 4;
    private static final int CODES = 100;
    private static final int FIRST_RAISED_CODE = 10;
    private static final int STATUS_PLACE = 0;
    private static final int PROGRAMS = 100;

    private static final int MOST_EXCEPTIONS = 60;
    private static final int MOST_CHECKS = 100;
    private static final int MOST_USES = 30;
    private static final int MOST_RUNNING = 10;

    private final Tree tree;
    private final Checks checks;
    private final Uses uses;
    private final OpenModes openModes;
    private final Running running;
    private final Latest latest;
    private int raised;
    private int untaken;
    private boolean ended;

    /** Promise 1. */
    public DeclarativeRows() {
        tree = new Tree();
        checks = new Checks();
        uses = new Uses();
        openModes = new OpenModes();
        running = new Running();
        latest = new Latest();
        raised = 0;
        untaken = 0;
        ended = false;
    }

    /** Promise 2. */
    public int exception(int level, int name) {
        if (level < 1 || level > LEVELS || !isBelow(name, NAMES)) {
            return NOT_SO;
        }
        if (level > 1 && tree.latestOf(level - 1) == 0) {
            return NO_SUCH;
        }
        return tree.add(level, name);
    }

    /** Promise 3. */
    public int use(int kind, int of) {
        switch (kind) {
            case FOR_EXCEPTION:
                return tree.has(of) ? uses.add(kind, of) : NO_SUCH;
            case FOR_FILE:
                return isBelow(of, FILES) ? uses.add(kind, of) : NOT_SO;
            case FOR_MODE:
                return isBelow(of, MODES) ? uses.add(kind, of) : NOT_SO;
            default:
                return NOT_SO;
        }
    }

    /** Promise 4. */
    public int check(int exception, int from, boolean on) {
        if (!tree.has(exception)) {
            return NO_SUCH;
        }
        if (!isBelow(from, PLACES)) {
            return NOT_SO;
        }
        return checks.add(exception, from, on);
    }

    /** Promise 5: wrong arguments are told even when the unit has ended. */
    public int raise(int exception, int place) {
        if (!tree.has(exception)) {
            return NO_SUCH;
        }
        if (!isBelow(place, PLACES)) {
            return NOT_SO;
        }
        if (ended || !checks.areOn(tree, exception, place)) {
            return PASSED_BY;
        }
        return come(exception, place, takerOfException(exception), tree.isFatal(exception));
    }

    /** Promise 6. */
    public int taken(int i) {
        return running.useAt(i);
    }

    /** Promise 7: a wrong place is told even when the unit has ended. */
    public int resume(int declarative, int to) {
        if (!isBelow(to, PLACES)) {
            return NOT_SO;
        }
        if (ended) {
            return HAS_ENDED;
        }
        if (running.size() == 0 || running.useAt(0) != declarative) {
            return 0;
        }
        int place = running.endLatest();
        return to == 0 ? place + 1 : to;
    }

    /** Promise 8. */
    public int nested(int exception) {
        if (!tree.has(exception)) {
            return NO_SUCH;
        }
        return running.holds(takerOfException(exception)) ? 1 : 0;
    }

    /** Promise 9: an ended unit still passes its last exception on, as the document bars it nowhere. */
    public int propagate(int program) {
        if (!isBelow(program, PROGRAMS)) {
            return NOT_SO;
        }
        return latest.passTo(program);
    }

    /** Promise 10. */
    public int last(int what) {
        return latest.tell(what);
    }

    /** Promise 11: wrong arguments are told even when the unit has ended. */
    public int status(int file, int code) {
        if (!isBelow(file, FILES)) {
            return NO_SUCH;
        }
        if (!isBelow(code, CODES)) {
            return NOT_SO;
        }
        if (ended || code < FIRST_RAISED_CODE) {
            return PASSED_BY;
        }
        return come(-code, STATUS_PLACE, takerOfFile(file), false);
    }

    /** Promise 12. */
    public int mode(int file, int mode) {
        if (!isBelow(file, FILES)) {
            return NO_SUCH;
        }
        if (mode != NONE && !isBelow(mode, MODES)) {
            return NOT_SO;
        }
        openModes.put(file, mode);
        return 1;
    }

    /** Promise 13. */
    public boolean ends() {
        return ended;
    }

    /** Promise 14. */
    public int count(int what) {
        switch (what) {
            case 0:
                return tree.size();
            case 1:
                return checks.size();
            case 2:
                return uses.size();
            case 3:
                return running.size();
            case 4:
                return raised;
            case 5:
                return untaken;
            default:
                return NONE;
        }
    }

    private static boolean isBelow(int value, int bound) {
        return value >= 0 && value < bound;
    }

    private int takerOfException(int exception) {
        int at = exception;
        for (int step = 0; step < LEVELS && tree.has(at); step++) {
            int taker = uses.firstFor(FOR_EXCEPTION, at);
            if (taker != NO_TAKER) {
                return taker;
            }
            at = tree.above(at);
        }
        return NO_TAKER;
    }

    private int takerOfFile(int file) {
        int taker = uses.firstFor(FOR_FILE, file);
        // No use is for the mode NONE, so a file that isn't open finds none here.
        return taker != NO_TAKER ? taker : uses.firstFor(FOR_MODE, openModes.of(file));
    }

    /** What ends the unit is counted and kept as the last one, too: so this comes first. */
    private int come(int number, int place, int taker, boolean fatal) {
        latest.put(number, place, taker);
        raised++;
        if (taker == NO_TAKER) {
            untaken++;
            if (fatal) {
                ended = true;
            }
            return 0;
        }
        if (running.holds(taker) || !running.start(taker, place)) {
            ended = true;
            return 0;
        }
        return taker;
    }

    /** The exceptions, by number from 1 on; number 0 stands for none. */
    private static final class Tree {
        private final int[] names = new int[MOST_EXCEPTIONS + 1];
        private final int[] parents = new int[MOST_EXCEPTIONS + 1];
        private final int[] latestOfLevel = new int[LEVELS + 1];
        private int size = 0;

        int size() {
            return size;
        }

        boolean has(int number) {
            return number >= 1 && number <= size && number < names.length;
        }

        int latestOf(int level) {
            return level >= 1 && level < latestOfLevel.length ? latestOfLevel[level] : 0;
        }

        int add(int level, int name) {
            int number = size + 1;
            if (number >= names.length || number >= parents.length
                    || level < 1 || level >= latestOfLevel.length) {
                return NONE;
            }
            names[number] = name;
            parents[number] = latestOf(level - 1);
            latestOfLevel[level] = number;
            size = number;
            return number;
        }

        int above(int number) {
            return has(number) && number < parents.length ? parents[number] : 0;
        }

        boolean isFatal(int number) {
            return has(number) && names[number] < FATAL_NAMES;
        }

        boolean isSameOrAbove(int upper, int number) {
            int at = number;
            for (int step = 0; step < LEVELS && has(at); step++) {
                if (at == upper) {
                    return true;
                }
                at = above(at);
            }
            return false;
        }
    }

    /** The checks, in the order in which they were told. */
    private static final class Checks {
        private final int[] exceptions = new int[MOST_CHECKS];
        private final int[] places = new int[MOST_CHECKS];
        private final boolean[] switches = new boolean[MOST_CHECKS];
        private int size = 0;

        int size() {
            return size;
        }

        int add(int exception, int from, boolean on) {
            if (!isRow(size)) {
                return NONE;
            }
            exceptions[size] = exception;
            places[size] = from;
            switches[size] = on;
            size++;
            return size;
        }

        boolean areOn(Tree tree, int exception, int place) {
            boolean on = false;
            int greatest = 0;
            for (int i = 0; i < size && isRow(i); i++) {
                // Not less, rather than greater: of checks at one place the latest told counts.
                if (places[i] >= greatest && places[i] <= place
                        && tree != null && tree.isSameOrAbove(exceptions[i], exception)) {
                    greatest = places[i];
                    on = switches[i];
                }
            }
            return on;
        }

        private boolean isRow(int i) {
            return i >= 0 && i < exceptions.length && i < places.length && i < switches.length;
        }
    }

    /** The uses, numbered from 1 on in the order in which they were told. */
    private static final class Uses {
        private final int[] kinds = new int[MOST_USES];
        private final int[] subjects = new int[MOST_USES];
        private int size = 0;

        int size() {
            return size;
        }

        int add(int kind, int of) {
            if (!isRow(size)) {
                return NONE;
            }
            kinds[size] = kind;
            subjects[size] = of;
            size++;
            return size;
        }

        int firstFor(int kind, int of) {
            for (int i = 0; i < size && isRow(i); i++) {
                if (kinds[i] == kind && subjects[i] == of) {
                    return i + 1;
                }
            }
            return NO_TAKER;
        }

        private boolean isRow(int i) {
            return i >= 0 && i < kinds.length && i < subjects.length;
        }
    }

    /** The mode in which each file is open, NONE when it isn't. */
    private static final class OpenModes {
        private final int[] modes = new int[FILES];

        OpenModes() {
            for (int i = 0; i < modes.length; i++) {
                modes[i] = NONE;
            }
        }

        int of(int file) {
            return isBelow(file, modes.length) ? modes[file] : NONE;
        }

        void put(int file, int mode) {
            if (isBelow(file, modes.length)) {
                modes[file] = mode;
            }
        }
    }

    /** The uses that run, the earliest first, so that the latest one goes and comes at the end. */
    private static final class Running {
        private final int[] takers = new int[MOST_RUNNING];
        private final int[] places = new int[MOST_RUNNING];
        private int size = 0;

        int size() {
            return size;
        }

        boolean start(int taker, int place) {
            if (!isRow(size)) {
                return false;
            }
            takers[size] = taker;
            places[size] = place;
            size++;
            return true;
        }

        int useAt(int i) {
            if (!isBelow(i, size)) {
                return NO_TAKER;
            }
            int row = size - 1 - i;
            return isRow(row) ? takers[row] : NO_TAKER;
        }

        /** The place where the use that ends was raised. */
        int endLatest() {
            int row = size - 1;
            if (!isRow(row)) {
                return 0;
            }
            size = row;
            return places[row];
        }

        boolean holds(int taker) {
            for (int i = 0; i < size && isRow(i); i++) {
                if (takers[i] == taker) {
                    return true;
                }
            }
            return false;
        }

        private boolean isRow(int i) {
            return i >= 0 && i < takers.length && i < places.length;
        }
    }

    /** The last exception or status. A status has a number below 0, and 0 says that none came. */
    private static final class Latest {
        private int number = 0;
        private int place = 0;
        private int taker = NO_TAKER;
        private int program = NONE;

        void put(int newNumber, int newPlace, int newTaker) {
            number = newNumber;
            place = newPlace;
            taker = newTaker;
            program = NONE;
        }

        int passTo(int newProgram) {
            if (number <= 0 || program != NONE) {
                return 0;
            }
            program = newProgram;
            return number;
        }

        int tell(int what) {
            if (number == 0) {
                return NONE;
            }
            switch (what) {
                case 0:
                    return number;
                case 1:
                    return place;
                case 2:
                    return taker;
                case 3:
                    return program;
                default:
                    return NONE;
            }
        }
    }
}
