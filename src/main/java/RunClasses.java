import java.util.Arrays;

/**
 * Runnables of a car's controllers as class files: found by marked members, loaded for each
 * controller and edition by itself, gone through by counted steps with handles to ports that are
 * good within one call alone, started in order at power-up, replaced with kept data carried;
 * whatever fails becomes the controller's fault.
 */
public final class RunClasses {
    private static final int CONTROLLERS = 8;
    private static final int PORTS = 8;
    private static final int CELLS = 8;
    private static final int CARRIED_CELLS = 4;
    private static final int PILE_ROOM = 16;
    private static final int MOST_RUNNABLES = 20;
    private static final int MOST_EDITIONS = 9;
    private static final int MOST_OCTETS = 120;
    private static final int MOST_STEPS = 65536;
    private static final int LONG_OCTETS = 8;

    private static final int MARK_START = 1;
    private static final int MARK_RUN = 2;
    private static final int MEMBER_HEAD = 2;

    private static final int STOP_CLASS = 1;
    private static final int STOP_CONTROLLER = 2;

    private static final int UNKNOWN = -1;
    private static final int OUTSIDE = -2;
    private static final int NOT_NOW = -3;
    private static final int NO_ROOM = -4;

    private static final int OK = 1;
    private static final int FAILED = 10;

    private static final int DONE = 0;
    private static final int NO_OCTET = 1;
    private static final int NO_PLACE = 2;
    private static final int PILE_WRONG = 3;
    private static final int BY_ZERO = 4;
    private static final int NO_GOOD_HANDLE = 5;
    private static final int GIVEN_UP = 6;
    private static final int BUDGET_SPENT = 7;

    private static final int NO_HANDLE = -1;

    private static final Instruction[] INSTRUCTIONS = Instruction.values();

    private final int budget;
    private final Controller[] controllers;
    /** The newest EDITION of each RUNNABLE; older ones are never looked into again. */
    private final Edition[] newestEditions;
    private final Way way;
    private final byte[] underWay;
    private int underWayLength;
    private int runnables;
    private int refusals;

    public RunClasses(int steps) {
        budget = Math.max(0, Math.min(steps, MOST_STEPS));
        controllers = new Controller[CONTROLLERS];
        for (int i = 0; i < controllers.length; i++) {
            controllers[i] = new Controller();
        }
        newestEditions = new Edition[MOST_RUNNABLES];
        way = new Way();
        underWay = new byte[MOST_OCTETS];
    }

    public int file(long v, int n) {
        if (n < 1 || n > LONG_OCTETS) {
            return refuse(OUTSIDE);
        }
        if (underWayLength + n > underWay.length) {
            return refuse(NO_ROOM);
        }
        for (int left = n - 1; left >= 0; left--) {
            putOctet((byte) (v >> (8 * left)));
        }
        return underWayLength;
    }

    public int runnable(int runnable) {
        Edition before = newestOf(runnable);
        if (runnable != 0 && before == null) {
            return refuse(UNKNOWN);
        }
        if (!isRight(underWay, underWayLength)) {
            underWayLength = 0;
            return refuse(OUTSIDE);
        }
        if (before == null) {
            return addRunnable();
        }
        return addEdition(runnable, before.number);
    }

    public int make(int controller, int runnable) {
        Controller owner = controllerAt(controller);
        Edition newest = newestOf(runnable);
        if (owner == null || newest == null) {
            return refuse(UNKNOWN);
        }
        if (owner.up || owner.classOf(runnable) != null) {
            return refuse(NOT_NOW);
        }
        owner.load(runnable, new Loaded(newest.number));
        return OK;
    }

    public int power(int controller) {
        Controller owner = controllerAt(controller);
        if (owner == null) {
            return refuse(UNKNOWN);
        }
        if (owner.up) {
            return refuse(NOT_NOW);
        }
        for (int number = 1; number <= runnables; number++) {
            int kind = callStart(owner, number);
            if (kind != DONE) {
                return FAILED + kind;
            }
        }
        owner.up = true;
        return OK;
    }

    public int run(int controller, int runnable) {
        return callRun(controller, runnable, false);
    }

    public int beside(int controller, int runnable) {
        return callRun(controller, runnable, true);
    }

    public long port(int controller, int p) {
        Controller owner = controllerAt(controller);
        return owner == null ? 0L : numberAt(owner.ports, p);
    }

    public int set(int controller, int p, long v) {
        Controller owner = controllerAt(controller);
        if (owner == null || p < 0 || p >= owner.ports.length) {
            return refuse(UNKNOWN);
        }
        putNumber(owner.ports, p, v);
        return OK;
    }

    public long cell(int controller, int runnable, int k) {
        Loaded loaded = classAt(controller, runnable);
        return loaded == null ? 0L : numberAt(loaded.cells, k);
    }

    public int reaction(int controller, int v) {
        Controller owner = controllerAt(controller);
        if (owner == null) {
            return refuse(UNKNOWN);
        }
        if (v < 0 || v > STOP_CONTROLLER) {
            return refuse(OUTSIDE);
        }
        int before = owner.reaction;
        owner.reaction = v;
        return before;
    }

    public int update(int controller, int runnable) {
        Controller owner = controllerAt(controller);
        Edition newest = newestOf(runnable);
        if (owner == null || newest == null) {
            return refuse(UNKNOWN);
        }
        Loaded loaded = owner.classOf(runnable);
        if (loaded == null || loaded.edition == newest.number) {
            return refuse(NOT_NOW);
        }
        loaded.becomeAnew(newest.number, CARRIED_CELLS);
        return OK;
    }

    public int reset(int controller) {
        Controller owner = controllerAt(controller);
        if (owner == null) {
            return refuse(UNKNOWN);
        }
        owner.up = false;
        Arrays.fill(owner.ports, 0L);
        int made = 0;
        for (int number = 1; number <= runnables; number++) {
            Loaded loaded = owner.classOf(number);
            Edition newest = newestOf(number);
            if (loaded != null && newest != null) {
                loaded.becomeAnew(newest.number, 0);
                made++;
            }
        }
        return made;
    }

    public int fault(int controller, int what) {
        Controller owner = controllerAt(controller);
        if (owner == null) {
            return refuse(UNKNOWN);
        }
        switch (what) {
            case 0:
                return owner.faultKind;
            case 1:
                return owner.faultRunnable;
            case 2:
                return owner.faultSteps;
            case 3:
                return owner.faultGiven;
            case 4:
                return owner.faults;
            case 5:
                return owner.up ? 1 : 0;
            default:
                return refuse(OUTSIDE);
        }
    }

    public boolean same(int controller, int other, int runnable) {
        Loaded one = classAt(controller, runnable);
        Loaded two = classAt(other, runnable);
        if (one == null || two == null || one.edition != two.edition) {
            return false;
        }
        for (int k = 0; k < CELLS; k++) {
            if (numberAt(one.cells, k) != numberAt(two.cells, k)) {
                return false;
            }
        }
        return true;
    }

    public int handle(int controller, int runnable) throws IllegalStateException {
        Loaded loaded = classAt(controller, runnable);
        if (loaded != null && loaded.handle != NO_HANDLE) {
            throw new IllegalStateException("no call is under way");
        }
        if (controllerAt(controller) == null || newestOf(runnable) == null) {
            return refuse(UNKNOWN);
        }
        return refuse(NOT_NOW);
    }

    public byte octet(int runnable, int i) throws ArrayIndexOutOfBoundsException {
        Edition newest = newestOf(runnable);
        if (newest == null || i < 0 || i >= newest.octets.length) {
            throw new ArrayIndexOutOfBoundsException("no such octet");
        }
        return newest.octets[i];
    }

    public long divide(long a, long b) throws ArithmeticException {
        if (b == 0L) {
            throw new ArithmeticException("by 0");
        }
        return a / b;
    }

    public int refused() {
        return refusals;
    }

    private int refuse(int why) {
        refusals++;
        return why;
    }

    private Controller controllerAt(int controller) {
        if (controller < 0 || controller >= controllers.length) {
            return null;
        }
        return controllers[controller];
    }

    private Edition newestOf(int runnable) {
        if (runnable < 1 || runnable > newestEditions.length) {
            return null;
        }
        return newestEditions[runnable - 1];
    }

    private Loaded classAt(int controller, int runnable) {
        Controller owner = controllerAt(controller);
        return owner == null ? null : owner.classOf(runnable);
    }

    private void putOctet(byte octet) {
        if (underWayLength >= 0 && underWayLength < underWay.length) {
            underWay[underWayLength] = octet;
            underWayLength++;
        }
    }

    private int addRunnable() {
        if (runnables >= MOST_RUNNABLES) {
            return refuse(NO_ROOM);
        }
        runnables++;
        keepEdition(runnables, 1);
        return runnables;
    }

    private int addEdition(int runnable, int before) {
        if (before >= MOST_EDITIONS) {
            return refuse(NO_ROOM);
        }
        keepEdition(runnable, before + 1);
        return before + 1;
    }

    /** Only for a FILE under way that is RIGHT: without a RUN member there is nothing to keep. */
    private void keepEdition(int runnable, int number) {
        byte[] octets = copyOf(underWay, 0, underWayLength);
        byte[] startCode = codeOf(octets, MARK_START);
        byte[] runCode = codeOf(octets, MARK_RUN);
        if (runCode != null && runnable >= 1 && runnable <= newestEditions.length) {
            newestEditions[runnable - 1] = new Edition(number, octets, startCode, runCode);
        }
        underWayLength = 0;
    }

    private int callStart(Controller owner, int runnable) {
        Loaded loaded = owner.classOf(runnable);
        Edition newest = newestOf(runnable);
        if (loaded == null || newest == null || loaded.edition != newest.number
                || newest.startCode == null) {
            return DONE;
        }
        return call(owner, loaded, runnable, newest.startCode);
    }

    private int callRun(int controller, int runnable, boolean besideOnly) {
        Controller owner = controllerAt(controller);
        Edition newest = newestOf(runnable);
        if (owner == null || newest == null) {
            return refuse(UNKNOWN);
        }
        Loaded loaded = owner.classOf(runnable);
        if (loaded == null || !owner.up || loaded.stopped || loaded.edition != newest.number) {
            return refuse(NOT_NOW);
        }
        int kind;
        if (besideOnly) {
            kind = way.goOnCopies(newest.runCode, owner.ports, loaded.cells, budget);
        } else {
            kind = call(owner, loaded, runnable, newest.runCode);
            if (kind != DONE) {
                react(owner, loaded);
            }
        }
        return kind == DONE ? OK : FAILED + kind;
    }

    private int call(Controller owner, Loaded loaded, int runnable, byte[] code) {
        int kind = way.go(code, owner.ports, loaded.cells, budget);
        if (way.handle != NO_HANDLE) {
            loaded.handle = way.handle;
        }
        if (kind != DONE) {
            owner.faultKind = kind;
            owner.faultRunnable = runnable;
            owner.faultSteps = way.steps;
            owner.faultGiven = way.given;
            owner.faults++;
        }
        return kind;
    }

    private static void react(Controller owner, Loaded loaded) {
        if (owner.reaction == STOP_CLASS) {
            loaded.stopped = true;
        }
        if (owner.reaction == STOP_CONTROLLER) {
            owner.up = false;
        }
    }

    private static boolean isRight(byte[] row, int length) {
        int starts = 0;
        int runs = 0;
        int at = 0;
        while (at < length) {
            int mark = octetAt(row, at);
            if (at + MEMBER_HEAD > length || mark > MARK_RUN) {
                return false;
            }
            starts += mark == MARK_START ? 1 : 0;
            runs += mark == MARK_RUN ? 1 : 0;
            at += MEMBER_HEAD + octetAt(row, at + 1);
        }
        return at == length && runs == 1 && starts <= 1;
    }

    /** The CODE of the first member with this mark; null when there is none. */
    private static byte[] codeOf(byte[] octets, int mark) {
        int at = 0;
        while (at < octets.length) {
            int size = octetAt(octets, at + 1);
            if (octetAt(octets, at) == mark) {
                return copyOf(octets, at + MEMBER_HEAD, size);
            }
            at += MEMBER_HEAD + size;
        }
        return null;
    }

    private static byte[] copyOf(byte[] row, int from, int size) {
        if (from < 0 || size < 0 || from > row.length || size > row.length - from) {
            return new byte[0];
        }
        return Arrays.copyOfRange(row, from, from + size);
    }

    private static int octetAt(byte[] row, int i) {
        return i >= 0 && i < row.length ? row[i] & 255 : 0;
    }

    private static long numberAt(long[] row, int i) {
        return i >= 0 && i < row.length ? row[i] : 0L;
    }

    private static void putNumber(long[] row, int i, long v) {
        if (i >= 0 && i < row.length) {
            row[i] = v;
        }
    }

    private static void copyNumbers(long[] from, long[] to) {
        for (int i = 0; i < from.length && i < to.length; i++) {
            to[i] = from[i];
        }
    }

    /** A FILE that is RIGHT, cut up. */
    private static final class Edition {
        private final int number;
        private final byte[] octets;
        /** Null when no member has START. */
        private final byte[] startCode;
        private final byte[] runCode;

        private Edition(int number, byte[] octets, byte[] startCode, byte[] runCode) {
            this.number = number;
            this.octets = octets;
            this.startCode = startCode;
            this.runCode = runCode;
        }
    }

    /** A CLASS. */
    private static final class Loaded {
        private final long[] cells = new long[CELLS];
        private int edition;
        private int handle = NO_HANDLE;
        private boolean stopped;

        private Loaded(int edition) {
            this.edition = edition;
        }

        private void becomeAnew(int newEdition, int carried) {
            for (int k = 0; k < cells.length; k++) {
                cells[k] = k < carried ? cells[k] : 0L;
            }
            edition = newEdition;
            handle = NO_HANDLE;
            stopped = false;
        }
    }

    private static final class Controller {
        private final long[] ports = new long[PORTS];
        private final Loaded[] classes = new Loaded[MOST_RUNNABLES];
        private boolean up;
        private int reaction;
        private int faultKind;
        private int faultRunnable;
        private int faultSteps;
        private int faultGiven;
        private int faults;

        private Loaded classOf(int runnable) {
            return runnable >= 1 && runnable <= classes.length ? classes[runnable - 1] : null;
        }

        private void load(int runnable, Loaded loaded) {
            if (runnable >= 1 && runnable <= classes.length) {
                classes[runnable - 1] = loaded;
            }
        }
    }

    /** The instructions, each at the place of its number. */
    private enum Instruction {
        LAY(true, false, 0, 1),
        LAY_CELL(true, true, 0, 1),
        TAKE_TO_CELL(true, true, 1, 0),
        LAY_PORT(true, true, 0, 1),
        TAKE_TO_PORT(true, true, 1, 0),
        ADD(false, false, 2, 1),
        SUBTRACT(false, false, 2, 1),
        MULTIPLY(false, false, 2, 1),
        DIVIDE(false, false, 2, 1),
        REMAINDER(false, false, 2, 1),
        LESS(false, false, 2, 1),
        EQUAL(false, false, 2, 1),
        LAY_AGAIN(false, false, 1, 2),
        GO_ON(true, false, 0, 0),
        GO_ON_IF_ZERO(true, false, 1, 0),
        LAY_CELL_TAKEN(false, false, 1, 1),
        KEEP_HANDLE(true, true, 0, 0),
        LAY_BY_HANDLE(false, false, 0, 1),
        GIVE_UP(true, false, 0, 0);

        private final boolean hasOctet;
        /** Whether its octet is the number of a cell or port (there are as many of both). */
        private final boolean namesPlace;
        private final int takes;
        private final int lays;

        Instruction(boolean hasOctet, boolean namesPlace, int takes, int lays) {
            this.hasOctet = hasOctet;
            this.namesPlace = namesPlace;
            this.takes = takes;
            this.lays = lays;
        }
    }

    /** The way of a CALL through a CODE; one for all CALLS, as only one is under way at once. */
    private static final class Way {
        private final long[] pile = new long[PILE_ROOM];
        private final long[] copiedPorts = new long[PORTS];
        private final long[] copiedCells = new long[CELLS];
        private byte[] code = new byte[0];
        private long[] ports = copiedPorts;
        private long[] cells = copiedCells;
        private int height;
        private int at;
        private int steps;
        private int given;
        /** The port of a HANDLE kept in this CALL alone: an earlier one is good for nothing. */
        private int handle;

        private int goOnCopies(byte[] newCode, long[] fromPorts, long[] fromCells, int budget) {
            copyNumbers(fromPorts, copiedPorts);
            copyNumbers(fromCells, copiedCells);
            return go(newCode, copiedPorts, copiedCells, budget);
        }

        private int go(byte[] newCode, long[] newPorts, long[] newCells, int budget) {
            code = newCode;
            ports = newPorts;
            cells = newCells;
            height = 0;
            at = 0;
            given = 0;
            handle = NO_HANDLE;
            int kind = DONE;
            int made = 0;
            while (kind == DONE && at < code.length && made < budget) {
                made++;
                kind = step();
            }
            steps = made;
            return kind == DONE && at < code.length ? BUDGET_SPENT : kind;
        }

        private int step() {
            int number = octetAt(code, at);
            if (number < 0 || number >= INSTRUCTIONS.length) {
                return NO_OCTET;
            }
            Instruction what = INSTRUCTIONS[number];
            int next = at + (what.hasOctet ? 2 : 1);
            if (next > code.length) {
                return NO_OCTET;
            }
            int k = octetAt(code, at + 1);
            if (what.namesPlace && k >= PORTS) {
                return NO_PLACE;
            }
            if (height < what.takes || height - what.takes + what.lays > PILE_ROOM) {
                return PILE_WRONG;
            }
            at = next;
            return doIt(what, k);
        }

        private int doIt(Instruction what, int k) {
            switch (what) {
                case LAY:
                    return lay((byte) k);
                case LAY_CELL:
                    return lay(numberAt(cells, k));
                case TAKE_TO_CELL:
                    putNumber(cells, k, take());
                    return DONE;
                case LAY_PORT:
                    return lay(numberAt(ports, k));
                case TAKE_TO_PORT:
                    putNumber(ports, k, take());
                    return DONE;
                case LAY_AGAIN:
                    return lay(numberAt(pile, height - 1));
                case GO_ON:
                    return goOnAt(at + (byte) k);
                case GO_ON_IF_ZERO:
                    return take() == 0L ? goOnAt(at + (byte) k) : DONE;
                case LAY_CELL_TAKEN:
                    long i = take();
                    return i >= 0L && i < CELLS ? lay(numberAt(cells, (int) i)) : NO_PLACE;
                case KEEP_HANDLE:
                    handle = k;
                    return DONE;
                case LAY_BY_HANDLE:
                    return handle == NO_HANDLE ? NO_GOOD_HANDLE : lay(numberAt(ports, handle));
                case GIVE_UP:
                    given = k;
                    return GIVEN_UP;
                default:
                    long y = take();
                    long x = take();
                    return y == 0L && divides(what) ? BY_ZERO : lay(reckoned(what, x, y));
            }
        }

        private static boolean divides(Instruction what) {
            return what == Instruction.DIVIDE || what == Instruction.REMAINDER;
        }

        private static long reckoned(Instruction what, long x, long y) {
            switch (what) {
                case ADD:
                    return x + y;
                case SUBTRACT:
                    return x - y;
                case MULTIPLY:
                    return x * y;
                case DIVIDE:
                    return y == 0L ? 0L : x / y;
                case REMAINDER:
                    return y == 0L ? 0L : x % y;
                case LESS:
                    return x < y ? 1L : 0L;
                default:
                    return x == y ? 1L : 0L;
            }
        }

        private int goOnAt(int target) {
            if (target < 0 || target > code.length) {
                return NO_OCTET;
            }
            at = target;
            return DONE;
        }

        private int lay(long v) {
            if (height >= 0 && height < pile.length) {
                pile[height] = v;
                height++;
            }
            return DONE;
        }

        private long take() {
            if (height <= 0 || height > pile.length) {
                return 0L;
            }
            height--;
            return pile[height];
        }
    }
}
