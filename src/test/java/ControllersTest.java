/** Promises 4 to 16, 18 and 19: what is asked of controllers and their CLASSES. */
public final class ControllersTest {
    private static final Bench bench = new Bench();
    private static final int[] NO_CONTROLLERS = {-1, 8, Integer.MIN_VALUE, Integer.MAX_VALUE};
    private static final int[] NO_RUNNABLES = {0, -1, 3, 20, 21, Integer.MIN_VALUE, Integer.MAX_VALUE};

    public static void main(String[] args) {
        make();
        makeNewest();
        power();
        powerFails();
        powerNewestOnly();
        run();
        runStays();
        beside();
        besideChangesNothing();
        portAndSet();
        cell();
        reactionAnswers();
        reactionFollows();
        update();
        reset();
        fault();
        same();
        handle();
        handleOfAnEarlierCall();
        divide();
        refused();
        unknownOnes();
        bench.end();
    }

    /** RUNNABLE 1 counts up cell 0 and port 0; RUNNABLE 2 gives up with 9. */
    private static RunClasses two() {
        RunClasses x = new RunClasses(100);
        Bench.add(x, 0, Bench.run(1, 0, 0, 1, 5, 12, 2, 0, 4, 0));
        Bench.add(x, 0, Bench.run(0, 5, 2, 3, 18, 9));
        return x;
    }

    private static void make() {
        RunClasses x = two();
        bench.due("make", x.make(0, 1), 1);
        bench.due("make again", x.make(0, 1), -3);
        bench.due("make another", x.make(0, 2), 1);
        bench.due("make elsewhere", x.make(7, 1), 1);
        bench.due("power", x.power(7), 1);
        bench.due("make in one that is UP", x.make(7, 2), -3);
        bench.due("-1 before -3", x.make(7, 3), -1);
        x.reset(7);
        bench.due("make in one that is UP no more", x.make(7, 2), 1);
        x.run(0, 1);
        x.power(0);
        x.run(0, 1);
        bench.due("nothing in common", x.cell(7, 1, 0), 0);
        bench.due("its own", x.cell(0, 1, 0), 1);
    }

    private static void makeNewest() {
        RunClasses x = two();
        Bench.add(x, 1, Bench.run(0, 44, 2, 1));
        x.make(0, 1);
        x.power(0);
        bench.due("run the newest", x.run(0, 1), 1);
        bench.due("cell 1", x.cell(0, 1, 1), 44);
        Bench.add(x, 1, Bench.run());
        x.make(1, 1);
        bench.due("not the newest", x.update(0, 1), 1);
        bench.due("the newest", x.update(1, 1), -3);
    }

    private static void power() {
        RunClasses x = new RunClasses(100);
        // each START appends its number to port 0: port 0 = 10 * port 0 + number
        for (int number = 1; number <= 3; number++) {
            int[] start = Bench.start(3, 0, 0, 10, 7, 0, number, 5, 4, 0);
            if (number == 2) {
                Bench.add(x, 0, Bench.run(), start);
            } else {
                Bench.add(x, 0, start, Bench.run(18, 1));
            }
        }
        Bench.add(x, 0, Bench.run(18, 1));
        x.make(2, 3);
        x.make(2, 4);
        x.make(2, 1);
        x.make(2, 2);
        bench.due("not UP", x.fault(2, 5), 0);
        bench.due("power", x.power(2), 1);
        bench.due("by the numbers", x.port(2, 0), 123);
        bench.due("UP", x.fault(2, 5), 1);
        bench.due("power again", x.power(2), -3);
        bench.due("not called again", x.port(2, 0), 123);
        bench.due("no CLASSES", x.power(3), 1);
        bench.due("UP without CLASSES", x.fault(3, 5), 1);
        bench.due("others have nothing of it", x.port(3, 0), 0);
        // STOPPED ones are started too, and stay STOPPED
        x.reaction(2, 1);
        bench.due("fails", x.run(2, 3), 16);
        bench.due("STOPPED", x.run(2, 3), -3);
        x.reaction(2, 2);
        bench.due("fails", x.run(2, 1), 16);
        bench.due("not UP", x.fault(2, 5), 0);
        x.set(2, 0, 0);
        bench.due("power", x.power(2), 1);
        bench.due("STOPPED ones too", x.port(2, 0), 123);
        bench.due("still STOPPED", x.run(2, 3), -3);
    }

    private static void powerFails() {
        for (int reaction = 0; reaction <= 2; reaction++) {
            RunClasses x = new RunClasses(100);
            Bench.add(x, 0, Bench.start(0, 1, 4, 1), Bench.run());
            Bench.add(x, 0, Bench.start(0, 2, 4, 2, 0, 3, 2, 3, 16, 4, 18, 8), Bench.run());
            Bench.add(x, 0, Bench.start(0, 3, 4, 3, 17), Bench.run());
            x.make(0, 1);
            x.make(0, 2);
            x.make(0, 3);
            x.reaction(0, reaction);
            bench.due("power fails", x.power(0), 16);
            bench.dueFault(x, 0, 6, 2, 6, 8, 1, 0);
            bench.due("the first was called", x.port(0, 1), 1);
            bench.due("what became stays: port", x.port(0, 2), 2);
            bench.due("what became stays: cell", x.cell(0, 2, 3), 3);
            bench.due("what became stays: HANDLE", handleOf(x, 0, 2), 1000);
            bench.due("no other was called", x.port(0, 3), 0);
            bench.due("not UP", x.run(0, 1), -3);
            Bench.add(x, 2, Bench.start(), Bench.run());
            x.update(0, 2);
            bench.due("the next fails", x.power(0), 15);
            bench.dueFault(x, 0, 5, 3, 3, 0, 2, 0);
            Bench.add(x, 3, Bench.start(), Bench.run());
            x.update(0, 3);
            bench.due("none fails", x.power(0), 1);
            bench.due("no REACTION followed", x.run(0, 2), 1);
            bench.due("no REACTION followed", x.run(0, 3), 1);
        }
        RunClasses x = new RunClasses(2);
        Bench.add(x, 0, Bench.start(13, 254), Bench.run());
        x.make(0, 1);
        bench.due("over the budget", x.power(0), 17);
        bench.dueFault(x, 0, 7, 1, 2, 0, 1, 0);
        // the budget is each CALL's own
        RunClasses y = new RunClasses(2);
        for (int number = 1; number <= 3; number++) {
            Bench.add(y, 0, Bench.start(0, number, 4, number), Bench.run());
            y.make(0, number);
        }
        bench.due("a budget for each", y.power(0), 1);
        bench.due("a budget for each", y.port(0, 3), 3);
    }

    private static void powerNewestOnly() {
        RunClasses x = new RunClasses(100);
        Bench.add(x, 0, Bench.start(18, 1), Bench.run());
        x.make(0, 1);
        x.make(1, 1);
        Bench.add(x, 1, Bench.start(18, 2), Bench.run());
        bench.due("an older EDITION is not started", x.power(0), 1);
        bench.due("nor run", x.run(0, 1), -3);
        x.update(1, 1);
        bench.due("the newest is", x.power(1), 16);
        bench.due("its k", x.fault(1, 3), 2);
    }

    private static void run() {
        RunClasses x = two();
        x.make(0, 1);
        bench.due("not UP", x.run(0, 1), -3);
        x.power(0);
        bench.due("no CLASS", x.run(0, 2), -3);
        bench.due("run", x.run(0, 1), 1);
        bench.due("run", x.run(0, 1), 1);
        bench.due("cell", x.cell(0, 1, 0), 2);
        bench.due("port", x.port(0, 0), 2);
        Bench.add(x, 1, Bench.run());
        bench.due("an older EDITION", x.run(0, 1), -3);
        bench.due("nothing became", x.cell(0, 1, 0), 2);
        x.update(0, 1);
        bench.due("the newest", x.run(0, 1), 1);
        bench.due("another not UP", x.run(1, 1), -3);
        bench.due("-1 before -3", x.run(1, 3), -1);
    }

    /** What a CALL that FAILS did up to there stays; its PILE is gone. */
    private static void runStays() {
        RunClasses x = new RunClasses(100);
        Bench.add(x, 0, Bench.run(0, 1, 2, 0, 0, 2, 4, 5, 16, 3, 0, 4, 0, 0, 8, 2, 7));
        Bench.add(x, 0, Bench.run(2, 0));
        x.make(0, 1);
        x.make(0, 2);
        x.power(0);
        bench.due("by 0", x.run(0, 1), 14);
        bench.due("cell", x.cell(0, 1, 0), 1);
        bench.due("port", x.port(0, 5), 2);
        bench.due("HANDLE", handleOf(x, 0, 1), 1000);
        bench.due("not reached", x.cell(0, 1, 7), 0);
        bench.due("an empty PILE", x.run(0, 2), 13);
        bench.dueFault(x, 0, 3, 2, 1, 0, 2, 1);
    }

    private static void beside() {
        RunClasses x = two();
        bench.due("beside", x.beside(0, 1), -3);
        x.make(0, 1);
        x.make(0, 2);
        bench.due("not UP", x.beside(0, 1), -3);
        x.power(0);
        bench.due("done", x.beside(0, 1), 1);
        bench.due("fails", x.beside(0, 2), 16);
        bench.due("no CLASS", x.beside(1, 1), -3);
        x.reaction(0, 1);
        x.run(0, 2);
        bench.due("STOPPED", x.beside(0, 2), -3);
        Bench.add(x, 1, Bench.run());
        bench.due("an older EDITION", x.beside(0, 1), -3);
        bench.due("counted", x.refused(), 5);
        // what it answers is of this very moment
        RunClasses y = Bench.ready(100, 3, 0, 14, 2, 18, 3);
        bench.due("port is 0", y.beside(0, 1), 1);
        y.set(0, 0, 1);
        bench.due("port is 1", y.beside(0, 1), 16);
    }

    private static void besideChangesNothing() {
        RunClasses x = new RunClasses(100);
        Bench.add(x, 0, Bench.run(0, 1, 2, 0, 0, 2, 4, 1, 16, 3, 18, 4));
        Bench.add(x, 0, Bench.run(0, 1, 2, 7, 0, 2, 4, 7, 16, 3, 17));
        x.make(0, 1);
        x.make(0, 2);
        x.make(1, 1);
        x.power(0);
        for (int reaction = 0; reaction <= 2; reaction++) {
            x.reaction(0, reaction);
            for (int again = 0; again < 2; again++) {
                bench.due("fails", x.beside(0, 1), 16);
                bench.due("done", x.beside(0, 2), 1);
            }
        }
        bench.dueFault(x, 0, 0, 0, 0, 0, 0, 1);
        for (int k = 0; k < 8; k++) {
            bench.due("port", x.port(0, k), 0);
            bench.due("cell", x.cell(0, 1, k), 0);
            bench.due("cell", x.cell(0, 2, k), 0);
        }
        bench.due("HANDLE", handleOf(x, 0, 1), -3);
        bench.due("HANDLE", handleOf(x, 0, 2), -3);
        bench.due("same", x.same(0, 1, 1), true);
        // what was tried beside is not there for the next one
        RunClasses y = Bench.ready(100, 1, 0, 3, 0, 5, 0, 1, 5, 12, 2, 0, 12, 4, 0,
                0, 2, 10, 14, 1, 13, 1, 19);
        y.beside(0, 1);
        y.beside(0, 1);
        y.run(0, 1);
        bench.due("one run alone", y.cell(0, 1, 0), 1);
    }

    private static void portAndSet() {
        RunClasses x = new RunClasses(100);
        for (int c = 0; c < 8; c++) {
            for (int p = 0; p < 8; p++) {
                bench.due("set", x.set(c, p, 100L * c + p + 1), 1);
            }
        }
        for (int c = 0; c < 8; c++) {
            for (int p = 0; p < 8; p++) {
                bench.due("port", x.port(c, p), 100L * c + p + 1);
            }
        }
        x.set(3, 4, Long.MIN_VALUE);
        bench.due("least", x.port(3, 4), Long.MIN_VALUE);
        x.set(3, 4, Long.MAX_VALUE);
        bench.due("most", x.port(3, 4), Long.MAX_VALUE);
        int[] no = {-1, 8, Integer.MIN_VALUE, Integer.MAX_VALUE};
        for (int p : no) {
            bench.due("no port", x.port(0, p), 0);
            bench.due("no controller", x.port(p, 0), 0);
            bench.due("set no port", x.set(0, p, 5), -1);
            bench.due("set no controller", x.set(p, 0, 5), -1);
        }
        bench.due("port() refuses nothing", x.refused(), 8);
        x.power(0);
        bench.due("set in one that is UP", x.set(0, 0, 3), 1);
    }

    private static void cell() {
        RunClasses x = Bench.ready(100, 0, 1, 2, 0, 0, 2, 2, 1, 0, 8, 2, 7);
        x.run(0, 1);
        bench.dueCells(x, 0, 1, 1, 2, 0, 0, 0, 0, 0, 8);
        int[] no = {-1, 8, Integer.MIN_VALUE, Integer.MAX_VALUE};
        for (int k : no) {
            bench.due("no cell", x.cell(0, 1, k), 0);
            bench.due("no controller", x.cell(k, 1, 0), 0);
            bench.due("no runnable", x.cell(0, k, 0), 0);
        }
        bench.due("no CLASS", x.cell(1, 1, 0), 0);
        bench.due("runnable 0", x.cell(0, 0, 0), 0);
        bench.due("runnable 21", x.cell(0, 21, 0), 0);
        bench.due("cell() refuses nothing", x.refused(), 0);
    }

    private static void reactionAnswers() {
        RunClasses x = new RunClasses(100);
        bench.due("0 at first", x.reaction(0, 2), 0);
        bench.due("2 before", x.reaction(0, 1), 2);
        bench.due("1 before", x.reaction(0, 1), 1);
        bench.due("3", x.reaction(0, 3), -2);
        bench.due("-1", x.reaction(0, -1), -2);
        bench.due("-1 before -2", x.reaction(8, 3), -1);
        bench.due("refused ones change nothing", x.reaction(0, 0), 1);
        bench.due("another's", x.reaction(7, 0), 0);
        bench.due("0 before", x.reaction(0, 0), 0);
    }

    private static void reactionFollows() {
        for (int reaction = 0; reaction <= 2; reaction++) {
            RunClasses x = two();
            x.make(0, 1);
            x.make(0, 2);
            x.make(1, 2);
            x.power(0);
            x.power(1);
            x.reaction(0, reaction);
            bench.due("fails", x.run(0, 2), 16);
            bench.due("UP", x.fault(0, 5), reaction == 2 ? 0 : 1);
            bench.due("again", x.run(0, 2), reaction == 0 ? 16 : -3);
            bench.due("another CLASS", x.run(0, 1), reaction == 2 ? -3 : 1);
            bench.due("the FAULTS", x.fault(0, 4), reaction == 0 ? 2 : 1);
            bench.due("another controller", x.run(1, 2), 16);
            bench.due("another controller", x.run(1, 2), 16);
            if (reaction == 2) {
                bench.due("power", x.power(0), 1);
                bench.due("the CLASS was not STOPPED", x.run(0, 2), 16);
            }
        }
    }

    private static void update() {
        RunClasses x = new RunClasses(100);
        int[] code = {0, 1, 2, 0, 0, 2, 2, 1, 0, 3, 2, 2, 0, 4, 2, 3, 0, 5, 2, 4, 0, 6, 2, 5,
            0, 7, 2, 6, 0, 8, 2, 7, 16, 2, 18, 1};
        Bench.add(x, 0, Bench.run(code));
        bench.due("no CLASS", x.update(0, 1), -3);
        x.make(0, 1);
        x.make(1, 1);
        bench.due("of the newest", x.update(0, 1), -3);
        x.reaction(0, 1);
        x.power(0);
        bench.due("fails", x.run(0, 1), 16);
        bench.due("STOPPED", x.run(0, 1), -3);
        bench.due("of the newest, STOPPED", x.update(0, 1), -3);
        bench.dueCells(x, 0, 1, 1, 2, 3, 4, 5, 6, 7, 8);
        Bench.add(x, 1, Bench.run(0, 99, 2, 7));
        Bench.add(x, 1, Bench.run(0, 98, 2, 7), Bench.start(18, 1));
        x.set(0, 1, 33);
        bench.due("update", x.update(0, 1), 1);
        bench.dueCells(x, 0, 1, 1, 2, 3, 4, 0, 0, 0, 0);
        bench.due("no HANDLE", handleOf(x, 0, 1), -3);
        bench.due("ports stay", x.port(0, 1), 33);
        bench.due("UP stays", x.fault(0, 5), 1);
        bench.due("no START is called", x.fault(0, 4), 1);
        bench.due("REACTION stays", x.reaction(0, 1), 1);
        bench.due("STOPPED no more", x.run(0, 1), 1);
        bench.due("the newest of three", x.cell(0, 1, 7), 98);
        bench.due("update again", x.update(0, 1), -3);
        bench.due("another controller's is its own", x.update(1, 1), 1);
        bench.due("-1 before -3", x.update(0, 2), -1);
    }

    private static void reset() {
        RunClasses x = new RunClasses(100);
        Bench.add(x, 0, Bench.run(0, 1, 2, 0, 0, 2, 2, 7, 0, 3, 4, 4, 16, 2, 18, 5));
        Bench.add(x, 0, Bench.run(0, 1, 2, 0));
        Bench.add(x, 0, Bench.run());
        x.make(0, 1);
        x.make(0, 2);
        x.make(1, 2);
        x.power(0);
        x.power(1);
        x.run(1, 2);
        x.set(1, 1, 5);
        x.reaction(0, 1);
        x.run(0, 2);
        bench.due("fails", x.run(0, 1), 16);
        Bench.add(x, 2, Bench.run(0, 7, 2, 1));
        bench.due("reset", x.reset(0), 2);
        bench.dueFault(x, 0, 6, 1, 8, 5, 1, 0);
        bench.dueCells(x, 0, 1, 0, 0, 0, 0, 0, 0, 0, 0);
        bench.dueCells(x, 0, 2, 0, 0, 0, 0, 0, 0, 0, 0);
        bench.due("no HANDLE", handleOf(x, 0, 1), -3);
        bench.due("ports are 0", x.port(0, 4), 0);
        bench.due("made anew of the newest", x.update(0, 2), -3);
        bench.due("power", x.power(0), 1);
        bench.due("STOPPED no more", x.run(0, 1), 16);
        bench.due("the newest runs", x.run(0, 2), 1);
        bench.due("the newest ran", x.cell(0, 2, 1), 7);
        bench.due("REACTION stays", x.reaction(0, 0), 1);
        bench.due("another is as it was", x.cell(1, 2, 0), 1);
        bench.due("another is as it was", x.port(1, 1), 5);
        bench.due("another is UP", x.fault(1, 5), 1);
        bench.due("another's CLASSES", x.reset(1), 1);
        bench.due("of no CLASSES", x.reset(2), 0);
        bench.due("again", x.reset(0), 2);
        bench.due("refused", x.refused(), 2);
    }

    private static void fault() {
        RunClasses x = two();
        x.make(3, 1);
        x.make(3, 2);
        x.power(3);
        x.run(3, 1);
        bench.dueFault(x, 3, 0, 0, 0, 0, 0, 1);
        x.run(3, 2);
        bench.dueFault(x, 3, 6, 2, 3, 9, 1, 1);
        x.run(3, 1);
        bench.dueFault(x, 3, 6, 2, 3, 9, 1, 1);
        Bench.add(x, 1, Bench.run(0, 1, 12, 2, 9));
        x.update(3, 1);
        x.run(3, 1);
        bench.dueFault(x, 3, 2, 1, 3, 0, 2, 1);
        bench.dueFault(x, 2, 0, 0, 0, 0, 0, 0);
        bench.due("what -1", x.fault(3, -1), -2);
        bench.due("what 6", x.fault(3, 6), -2);
        bench.due("what max", x.fault(3, Integer.MAX_VALUE), -2);
        bench.due("-1 before -2", x.fault(8, 6), -1);
    }

    private static void same() {
        RunClasses x = two();
        bench.due("no CLASSES", x.same(0, 1, 1), false);
        x.make(0, 1);
        bench.due("one CLASS", x.same(0, 1, 1), false);
        bench.due("one CLASS", x.same(1, 0, 1), false);
        bench.due("itself", x.same(0, 0, 1), true);
        x.make(1, 1);
        bench.due("both", x.same(0, 1, 1), true);
        bench.due("another runnable", x.same(0, 1, 2), false);
        x.power(0);
        x.run(0, 1);
        bench.due("other cells", x.same(0, 1, 1), false);
        bench.due("other cells", x.same(1, 0, 1), false);
        x.power(1);
        x.set(1, 5, 5);
        x.reaction(1, 2);
        x.run(1, 1);
        bench.due("the same cells", x.same(0, 1, 1), true);
        Bench.add(x, 1, Bench.run(0, 1, 2, 7));
        bench.due("both older", x.same(0, 1, 1), true);
        x.update(0, 1);
        bench.due("another EDITION", x.same(0, 1, 1), false);
        x.update(1, 1);
        bench.due("the same EDITION", x.same(0, 1, 1), true);
        x.run(0, 1);
        bench.due("another last cell", x.same(0, 1, 1), false);
        for (int no : NO_CONTROLLERS) {
            bench.due("no controller", x.same(no, 0, 1), false);
            bench.due("no controller", x.same(0, no, 1), false);
            bench.due("no controllers", x.same(no, no, 1), false);
        }
        for (int no : NO_RUNNABLES) {
            bench.due("no runnable", x.same(0, 0, no), false);
        }
        bench.due("same() refuses nothing", x.refused(), 0);
    }

    private static int handleOf(RunClasses x, int controller, int runnable) {
        try {
            return x.handle(controller, runnable);
        } catch (IllegalStateException e) {
            return 1000;
        }
    }

    private static void handle() {
        RunClasses x = new RunClasses(100);
        Bench.add(x, 0, Bench.run(16, 0));
        bench.due("no CLASS", handleOf(x, 0, 1), -3);
        x.make(0, 1);
        x.make(1, 1);
        bench.due("none", handleOf(x, 0, 1), -3);
        x.power(0);
        bench.due("none", handleOf(x, 0, 1), -3);
        x.run(0, 1);
        bench.due("there is one", handleOf(x, 0, 1), 1000);
        bench.due("there is one still", handleOf(x, 0, 1), 1000);
        bench.due("not of another", handleOf(x, 1, 1), -3);
        bench.due("an exception is no refusal", x.refused(), 4);
        Bench.add(x, 1, Bench.run());
        bench.due("of an older EDITION", handleOf(x, 0, 1), 1000);
        x.reset(0);
        bench.due("made anew", handleOf(x, 0, 1), -3);
    }

    private static void handleOfAnEarlierCall() {
        RunClasses x = new RunClasses(100);
        // START keeps one; RUN keeps one only while port 0 is not 0, and goes by it
        Bench.add(x, 0, Bench.start(16, 1, 17, 2, 6), Bench.run(3, 0, 14, 2, 16, 2, 17, 2, 7));
        x.make(0, 1);
        x.set(0, 0, 1);
        x.set(0, 1, 11);
        x.set(0, 2, 22);
        bench.due("power", x.power(0), 1);
        bench.due("START went by its own", x.cell(0, 1, 6), 11);
        x.set(0, 0, 0);
        bench.due("that of START is good no more", x.run(0, 1), 15);
        bench.due("beside too", x.beside(0, 1), 15);
        bench.dueFault(x, 0, 5, 1, 3, 0, 1, 1);
        x.set(0, 0, 1);
        bench.due("its own is good", x.run(0, 1), 1);
        bench.due("port 2", x.cell(0, 1, 7), 22);
        x.set(0, 0, 0);
        bench.due("that of the CALL before is good no more", x.run(0, 1), 15);
        bench.due("it is kept all the same", handleOf(x, 0, 1), 1000);
    }

    private static long divideOf(RunClasses x, long a, long b) {
        try {
            return x.divide(a, b);
        } catch (ArithmeticException e) {
            return 1000;
        }
    }

    private static void divide() {
        RunClasses x = new RunClasses(100);
        bench.due("7 / 2", divideOf(x, 7, 2), 3);
        bench.due("-7 / 2", divideOf(x, -7, 2), -3);
        bench.due("7 / -2", divideOf(x, 7, -2), -3);
        bench.due("-7 / -2", divideOf(x, -7, -2), 3);
        bench.due("0 / 5", divideOf(x, 0, 5), 0);
        bench.due("least / -1", divideOf(x, Long.MIN_VALUE, -1), Long.MIN_VALUE);
        bench.due("least / 1", divideOf(x, Long.MIN_VALUE, 1), Long.MIN_VALUE);
        bench.due("most / least", divideOf(x, Long.MAX_VALUE, Long.MIN_VALUE), 0);
        bench.due("1 / 2^32", divideOf(x, 1, 1L << 32), 0);
        bench.due("5 / 0", divideOf(x, 5, 0), 1000);
        bench.due("0 / 0", divideOf(x, 0, 0), 1000);
        bench.due("an exception is no refusal", x.refused(), 0);
    }

    private static void refused() {
        RunClasses x = new RunClasses(100);
        bench.due("none", x.refused(), 0);
        x.file(0, 0);
        x.runnable(0);
        x.runnable(1);
        bench.due("3", x.refused(), 3);
        bench.due("asking counts nothing", x.refused(), 3);
        Bench.add(x, 0, Bench.run(18, 1));
        x.make(0, 1);
        x.power(0);
        x.run(0, 1);
        x.beside(0, 1);
        bench.due("a CALL that FAILS is not REFUSED", x.refused(), 3);
    }

    private static void unknownOnes() {
        RunClasses x = two();
        int count = 0;
        for (int no : NO_CONTROLLERS) {
            bench.due("make", x.make(no, 1), -1);
            bench.due("power", x.power(no), -1);
            bench.due("run", x.run(no, 1), -1);
            bench.due("beside", x.beside(no, 1), -1);
            bench.due("reaction", x.reaction(no, 1), -1);
            bench.due("update", x.update(no, 1), -1);
            bench.due("reset", x.reset(no), -1);
            bench.due("fault", x.fault(no, 0), -1);
            bench.due("handle", handleOf(x, no, 1), -1);
            count += 9;
        }
        for (int no : NO_RUNNABLES) {
            bench.due("make", x.make(0, no), -1);
            bench.due("run", x.run(0, no), -1);
            bench.due("beside", x.beside(0, no), -1);
            bench.due("update", x.update(0, no), -1);
            bench.due("handle", handleOf(x, 0, no), -1);
            count += 5;
        }
        bench.due("refused", x.refused(), count);
    }
}
