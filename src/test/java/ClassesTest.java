/** What a CLASS is, and promises 4, 10, 12, 15 and 16: make, cell, update, same, handle. */
public final class ClassesTest {
    private static final Bench bench = new Bench();
    private static final int[] NO_RUNNABLES =
        {0, -1, 3, 4, 20, 21, 256, Integer.MIN_VALUE, Integer.MAX_VALUE};
    private static final int[] NO_CELLS = {-1, 8, 9, 256, Integer.MIN_VALUE, Integer.MAX_VALUE};
    /** A CODE by which cells 0 .. 7 become 1 .. 8. */
    private static final int[] FILL = {0, 1, 2, 0, 0, 2, 2, 1, 0, 3, 2, 2, 0, 4, 2, 3,
        0, 5, 2, 4, 0, 6, 2, 5, 0, 7, 2, 6, 0, 8, 2, 7};

    public static void main(String[] args) {
        classes();
        nothingInCommon();
        make();
        makeRefused();
        cell();
        update();
        updateRefused();
        same();
        handle();
        bench.end();
    }

    /** RUNNABLE 1 counts up cell 0 and port 0; RUNNABLE 2 gives up with 9. */
    private static RunClasses two() {
        RunClasses x = new RunClasses(100);
        Bench.add(x, 0, Bench.run(1, 0, 0, 1, 5, 12, 2, 0, 4, 0));
        Bench.add(x, 0, Bench.run(0, 5, 2, 3, 18, 9));
        return x;
    }

    private static void classes() {
        bench.sentence("Terms, A CLASS", "A CLASS is a RUNNABLE's EDITION in a CONTROLLER, "
                + "one at most of a RUNNABLE:");
        RunClasses x = two();
        bench.due("make", x.make(0, 1), 1);
        bench.due("a second of it", x.make(0, 1), -3);
        bench.due("one of another", x.make(0, 2), 1);
        bench.due("one elsewhere", x.make(1, 1), 1);
        Bench.add(x, 1, Bench.run());
        bench.due("a second of another EDITION", x.make(0, 1), -3);
        bench.due("how many", x.reset(0), 2);

        bench.sentence("Terms, A CLASS", "it has CELLS 0 .. 7 (0 at first),");
        RunClasses y = Bench.ready(100, FILL);
        bench.dueCells(y, 0, 1, 0, 0, 0, 0, 0, 0, 0, 0);
        y.run(0, 1);
        bench.dueCells(y, 0, 1, 1, 2, 3, 4, 5, 6, 7, 8, 0);

        bench.sentence("Terms, A CLASS", "is STOPPED or not (not at first),");
        RunClasses z = two();
        z.reaction(0, 1);
        z.make(0, 2);
        z.power(0);
        bench.due("not at first", z.run(0, 2), 16);
        bench.due("STOPPED", z.run(0, 2), -3);
        bench.due("STOPPED still", z.run(0, 2), -3);

        bench.sentence("Terms, A CLASS", "and may keep a HANDLE (none at first).");
        RunClasses h = Bench.ready(100, 3, 0, 14, 2, 16, 2);
        bench.due("none at first", Bench.handleOf(h, 0, 1), -3);
        h.run(0, 1);
        bench.due("none kept", Bench.handleOf(h, 0, 1), -3);
        h.set(0, 0, 1);
        h.run(0, 1);
        bench.due("one kept", Bench.handleOf(h, 0, 1), Bench.THROWN);
        h.set(0, 0, 0);
        h.run(0, 1);
        bench.due("kept on by a CALL that keeps none", Bench.handleOf(h, 0, 1), Bench.THROWN);
    }

    private static void nothingInCommon() {
        bench.sentence("Terms, A CLASS", "Two CLASSES have nothing in common.");
        RunClasses x = new RunClasses(100);
        Bench.add(x, 0, Bench.run(0, 1, 2, 0, 0, 2, 2, 7, 16, 2, 18, 1));
        Bench.add(x, 0, Bench.run());
        Bench.add(x, 1, Bench.run(0, 1, 2, 0, 0, 2, 2, 7, 16, 2, 18, 1));
        for (int c = 0; c < 8; c++) {
            x.make(c, 1);
            x.make(c, 2);
            x.power(c);
        }
        x.reaction(3, 1);
        bench.due("run in one CONTROLLER", x.run(3, 1), 16);
        bench.dueCells(x, 3, 1, 1, 0, 0, 0, 0, 0, 0, 2);
        bench.due("HANDLE", Bench.handleOf(x, 3, 1), Bench.THROWN);
        bench.due("STOPPED", x.run(3, 1), -3);
        bench.dueCells(x, 3, 2, 0, 0, 0, 0, 0, 0, 0, 0);
        bench.due("HANDLE of another RUNNABLE", Bench.handleOf(x, 3, 2), -3);
        bench.due("run another RUNNABLE", x.run(3, 2), 1);
        for (int c = 0; c < 8; c++) {
            if (c != 3) {
                bench.dueCells(x, c, 1, 0, 0, 0, 0, 0, 0, 0, 0);
                bench.due("HANDLE elsewhere", Bench.handleOf(x, c, 1), -3);
                bench.due("not STOPPED elsewhere", x.beside(c, 1), 16);
            }
        }
        Bench.add(x, 1, Bench.run());
        bench.due("update", x.update(3, 1), 1);
        bench.due("elsewhere it is an older one still", x.run(2, 1), -3);
        bench.due("run of the newest", x.run(3, 1), 1);
        x.reset(4);
        bench.due("made anew", x.update(4, 1), -3);
        bench.due("elsewhere it is an older one still", x.update(5, 1), 1);
        bench.dueCells(x, 3, 1, 1, 0, 0, 0, 0, 0, 0, 0);
    }

    private static void make() {
        bench.sentence("Promise 4", "A CLASS of a RUNNABLE's newest EDITION in a CONTROLLER: 1.");
        RunClasses x = two();
        Bench.add(x, 1, Bench.run(0, 44, 2, 1));
        for (int c = 0; c < 8; c++) {
            bench.due("make of 1 in " + c, x.make(c, 1), 1);
            bench.due("make of 2 in " + c, x.make(c, 2), 1);
        }
        x.power(0);
        bench.due("run the newest", x.run(0, 1), 1);
        bench.dueCells(x, 0, 1, 0, 44);
        Bench.add(x, 1, Bench.run(0, 45, 2, 2));
        bench.due("not the newest any more", x.run(0, 1), -3);
        RunClasses y = two();
        Bench.add(y, 1, Bench.run(0, 44, 2, 1));
        Bench.add(y, 1, Bench.run(0, 45, 2, 1));
        y.make(1, 1);
        bench.due("the newest of three", y.update(1, 1), -3);
        y.power(1);
        y.run(1, 1);
        bench.dueCells(y, 1, 1, 0, 45);
        bench.due("no CLASS elsewhere", y.reset(0), 0);
        bench.due("no other CLASS there", y.reset(1), 1);
    }

    private static void makeRefused() {
        bench.sentence("Promise 4", "-1 there is no such CONTROLLER or RUNNABLE,");
        RunClasses x = two();
        for (int no : Bench.NO_CONTROLLERS) {
            bench.due("controller " + no, x.make(no, 1), -1);
            bench.due("controller and runnable " + no, x.make(no, no), -1);
        }
        for (int no : NO_RUNNABLES) {
            bench.due("runnable " + no, x.make(0, no), -1);
        }
        bench.due("no CLASS came of it", x.reset(0), 0);
        x.power(0);
        bench.due("-1 before -3", x.make(0, 3), -1);

        bench.sentence("Promise 4", "-3 the CONTROLLER is UP, or has one of that RUNNABLE.");
        bench.due("UP", x.make(0, 1), -3);
        bench.due("not UP", x.make(1, 1), 1);
        bench.due("has one", x.make(1, 1), -3);
        bench.due("has another", x.make(1, 2), 1);
        x.power(1);
        bench.due("UP and has one", x.make(1, 1), -3);
        x.reset(0);
        bench.due("UP no more by reset", x.make(0, 1), 1);
        x.make(0, 2);
        x.power(0);
        x.run(0, 1);
        x.reaction(0, 2);
        x.run(0, 2);
        bench.due("UP no more, has one", x.make(0, 1), -3);
        bench.due("and it is as it was", x.cell(0, 1, 0), 1);
        Bench.add(x, 0, Bench.run());
        bench.due("UP no more by a REACTION", x.make(0, 3), 1);
        Bench.add(x, 1, Bench.run());
        bench.due("has one of an older EDITION", x.make(0, 1), -3);
        bench.due("and it is as it was", x.cell(0, 1, 0), 1);
    }

    private static void cell() {
        bench.sentence("Promise 10", "What a cell of a CLASS has;");
        RunClasses x = Bench.made(100, Bench.run(FILL));
        Bench.add(x, 0, Bench.run(3, 0, 2, 6));
        x.make(0, 2);
        x.make(1, 1);
        x.power(0);
        x.set(0, 0, Long.MIN_VALUE + 1);
        x.run(0, 1);
        x.run(0, 2);
        bench.dueCells(x, 0, 1, 1, 2, 3, 4, 5, 6, 7, 8);
        bench.dueCells(x, 0, 2, 0, 0, 0, 0, 0, 0, Long.MIN_VALUE + 1, 0);
        bench.dueCells(x, 1, 1, 0, 0, 0, 0, 0, 0, 0, 0);
        Bench.add(x, 1, Bench.run());
        bench.dueCells(x, 0, 1, 1, 2, 3, 4, 5, 6, 7, 8);

        bench.sentence("Promise 10", "0 when there is no such CLASS or cell.");
        int before = x.refused();
        for (int k : NO_CELLS) {
            bench.due("cell " + k, x.cell(0, 1, k), 0);
            bench.due("cell " + k + " of no CLASS", x.cell(2, 1, k), 0);
        }
        for (int no : Bench.NO_CONTROLLERS) {
            bench.due("controller " + no, x.cell(no, 1, 0), 0);
        }
        for (int no : NO_RUNNABLES) {
            bench.due("runnable " + no, x.cell(0, no, 0), 0);
        }
        bench.due("no CLASS", x.cell(2, 1, 0), 0);
        bench.due("no CLASS of that RUNNABLE", x.cell(1, 2, 6), 0);
        bench.due("it refuses nothing", x.refused(), before);
    }

    private static void update() {
        bench.sentence("Promise 12", "A CLASS becomes one of the newest EDITION:");
        RunClasses x = Bench.made(100, Bench.run(Bench.joined(FILL, new int[] {16, 2, 18, 1})));
        x.make(1, 1);
        x.reaction(0, 1);
        x.power(0);
        x.run(0, 1);
        Bench.add(x, 1, Bench.run(0, 99, 2, 7));
        Bench.add(x, 1, Bench.run(0, 98, 2, 7), Bench.start(18, 1));
        x.set(0, 1, 33);
        bench.dueCells(x, 0, 1, 1, 2, 3, 4, 5, 6, 7, 8);
        bench.due("update", x.update(0, 1), 1);
        bench.due("it is of the newest", x.update(0, 1), -3);
        bench.due("one elsewhere is not", x.update(1, 1), 1);
        bench.due("UP stays, no START is called", x.fault(0, 4), 1);
        bench.due("UP stays", x.fault(0, 5), 1);
        bench.due("ports stay", x.port(0, 1), 33);

        bench.sentence("Promise 12", "cells 0 .. 3 are carried, the others are 0,");
        bench.dueCells(x, 0, 1, 1, 2, 3, 4, 0, 0, 0, 0);
        bench.dueCells(x, 1, 1, 0, 0, 0, 0, 0, 0, 0, 0);

        bench.sentence("Promise 12", "it keeps no HANDLE and is not STOPPED: 1.");
        bench.due("no HANDLE", Bench.handleOf(x, 0, 1), -3);
        bench.due("REACTION stays", x.reaction(0, 1), 1);
        bench.due("not STOPPED", x.run(0, 1), 1);
        bench.dueCells(x, 0, 1, 1, 2, 3, 4, 0, 0, 0, 98);
        RunClasses y = Bench.made(100, Bench.run(FILL));
        y.power(0);
        y.run(0, 1);
        y.reset(0);
        Bench.add(y, 1, Bench.run());
        bench.due("not UP", y.update(0, 1), 1);
        bench.due("not UP still", y.fault(0, 5), 0);
    }

    private static void updateRefused() {
        bench.sentence("Promise 12", "-1 there is no such CONTROLLER or RUNNABLE,");
        RunClasses x = two();
        x.make(0, 1);
        x.make(1, 2);
        Bench.add(x, 1, Bench.run(0, 1, 2, 7));
        for (int no : Bench.NO_CONTROLLERS) {
            bench.due("controller " + no, x.update(no, 1), -1);
        }
        for (int no : NO_RUNNABLES) {
            bench.due("runnable " + no, x.update(0, no), -1);
        }

        bench.sentence("Promise 12", "-3 there is no such CLASS, or it is of the newest one.");
        bench.due("no CLASS of that RUNNABLE", x.update(0, 2), -3);
        bench.due("no CLASS in that CONTROLLER", x.update(1, 1), -3);
        bench.due("no CLASS came of it", x.reset(1), 1);
        bench.due("of an older one", x.update(0, 1), 1);
        x.power(0);
        x.run(0, 1);
        bench.dueCells(x, 0, 1, 0, 0, 0, 0, 0, 0, 0, 1);
        bench.due("of the newest one", x.update(0, 1), -3);
        bench.dueCells(x, 0, 1, 0, 0, 0, 0, 0, 0, 0, 1);
        RunClasses y = Bench.made(100, Bench.run(16, 1, 18, 1));
        y.reaction(0, 1);
        y.power(0);
        y.run(0, 1);
        bench.due("of the newest one, STOPPED", y.update(0, 1), -3);
        bench.due("STOPPED still", y.run(0, 1), -3);
        bench.due("its HANDLE is kept", Bench.handleOf(y, 0, 1), Bench.THROWN);
    }

    private static void same() {
        bench.sentence("Promise 15", "Whether two CONTROLLERS have a CLASS of a RUNNABLE each,");
        RunClasses x = two();
        bench.due("no CLASSES", x.same(0, 1, 1), false);
        x.make(0, 1);
        bench.due("the first has one", x.same(0, 1, 1), false);
        bench.due("the second has one", x.same(1, 0, 1), false);
        bench.due("neither has one", x.same(2, 3, 1), false);
        x.make(1, 2);
        bench.due("one of another RUNNABLE", x.same(0, 1, 1), false);
        bench.due("one of another RUNNABLE", x.same(0, 1, 2), false);
        x.make(1, 1);
        bench.due("both", x.same(0, 1, 1), true);
        bench.due("both", x.same(1, 0, 1), true);
        bench.due("a CONTROLLER and itself", x.same(0, 0, 1), true);
        for (int no : Bench.NO_CONTROLLERS) {
            bench.due("no controller", x.same(no, 0, 1), false);
            bench.due("no controller", x.same(0, no, 1), false);
            bench.due("no controllers", x.same(no, no, 1), false);
        }
        for (int no : NO_RUNNABLES) {
            bench.due("no runnable", x.same(0, 1, no), false);
        }
        bench.due("it refuses nothing", x.refused(), 0);

        bench.sentence("Promise 15", "by the same EDITION,");
        Bench.add(x, 1, Bench.run(FILL));
        bench.due("both of the older one", x.same(0, 1, 1), true);
        x.update(0, 1);
        bench.due("the first of the newest", x.same(0, 1, 1), false);
        bench.due("the second of the newest", x.same(1, 0, 1), false);
        x.update(1, 1);
        bench.due("both of the newest", x.same(0, 1, 1), true);
        // two older EDITIONS are not one
        RunClasses o = two();
        o.make(0, 1);
        Bench.add(o, 1, Bench.run());
        o.make(1, 1);
        Bench.add(o, 1, Bench.run());
        bench.due("two older ones", o.same(0, 1, 1), false);

        bench.sentence("Promise 15", "with the same cells.");
        for (int k = 0; k < 8; k++) {
            RunClasses y = Bench.made(100, Bench.run(3, 0, 2, k, 16, 1, 3, 1, 4, 2, 18, 1));
            y.make(1, 1);
            y.power(0);
            y.set(0, 0, 1L << 40);
            y.set(0, 1, 5);
            y.reaction(0, 1);
            y.run(0, 1);
            bench.due("another cell " + k, y.same(0, 1, 1), false);
            bench.due("another cell " + k, y.same(1, 0, 1), false);
            y.power(1);
            y.set(1, 0, 1L << 41);
            y.run(1, 1);
            bench.due("another number in cell " + k, y.same(0, 1, 1), false);
            y.set(1, 0, 1L << 40);
            y.run(1, 1);
            // ports, UP, REACTION and STOPPED are not of the same, and tell nothing
            bench.due("the same cells", y.same(0, 1, 1), true);
            y.reset(1);
            bench.due("made anew", y.same(0, 1, 1), false);
        }
        RunClasses h = Bench.made(100, Bench.run(3, 0, 14, 2, 16, 1));
        h.make(1, 1);
        h.power(0);
        h.set(0, 0, 1);
        h.run(0, 1);
        bench.due("a HANDLE tells nothing", h.same(0, 1, 1), true);
    }

    private static void handle() {
        bench.sentence("Promise 16", "What the HANDLE that a CLASS keeps leads to: never, "
                + "as no CALL is under way: IllegalStateException, if there is one;");
        RunClasses x = new RunClasses(100);
        Bench.add(x, 0, Bench.run(16, 0));
        Bench.add(x, 0, Bench.start(16, 7, 18, 1), Bench.run());
        x.make(0, 1);
        x.make(1, 1);
        x.make(1, 2);
        x.power(0);
        x.run(0, 1);
        bench.due("kept by RUN, port 0", Bench.handleOf(x, 0, 1), Bench.THROWN);
        bench.due("again", Bench.handleOf(x, 0, 1), Bench.THROWN);
        x.power(1);
        bench.due("kept by START, port 7", Bench.handleOf(x, 1, 2), Bench.THROWN);
        Bench.add(x, 1, Bench.run());
        bench.due("of an older EDITION", Bench.handleOf(x, 0, 1), Bench.THROWN);
        bench.due("an exception is no refusal", x.refused(), 0);

        bench.sentence("Promise 16", "otherwise -1 there is no such CONTROLLER or RUNNABLE,");
        for (int no : Bench.NO_CONTROLLERS) {
            bench.due("controller " + no, Bench.handleOf(x, no, 1), -1);
        }
        for (int no : NO_RUNNABLES) {
            bench.due("runnable " + no, Bench.handleOf(x, 0, no), -1);
        }
        bench.due("refused", x.refused(), Bench.NO_CONTROLLERS.length + NO_RUNNABLES.length);

        bench.sentence("Promise 16", "-3 there is no such CLASS, or it keeps none.");
        int before = x.refused();
        bench.due("no CLASS", Bench.handleOf(x, 0, 2), -3);
        bench.due("no CLASS in that CONTROLLER", Bench.handleOf(x, 2, 1), -3);
        bench.due("it keeps none", Bench.handleOf(x, 1, 1), -3);
        x.update(0, 1);
        bench.due("none after update", Bench.handleOf(x, 0, 1), -3);
        bench.due("the other is kept", Bench.handleOf(x, 1, 2), Bench.THROWN);
        x.reset(1);
        bench.due("none after reset", Bench.handleOf(x, 1, 2), -3);
        bench.due("refused", x.refused(), before + 5);
    }
}
