/**
 * What a CONTROLLER is, and promises 5 to 9, 11, 13 and 14: power, run, beside, port, set,
 * reaction, reset, fault.
 */
public final class ControllersTest {
    private static final Bench bench = new Bench();
    private static final int[] NO_PORTS = {-1, 8, 9, 256, Integer.MIN_VALUE, Integer.MAX_VALUE};
    private static final int[] NO_RUNNABLES =
        {0, -1, 3, 4, 20, 21, 256, Integer.MIN_VALUE, Integer.MAX_VALUE};

    public static void main(String[] args) {
        controllers();
        reactions();
        power();
        powerFails();
        powerRefused();
        run();
        runRefused();
        beside();
        besideChangesNothing();
        port();
        set();
        reaction();
        reset();
        fault();
        bench.end();
    }

    /** RUNNABLE 1 counts up cell 0 and port 0; RUNNABLE 2 gives up with 9. */
    private static RunClasses two() {
        RunClasses x = new RunClasses(100);
        Bench.add(x, 0, Bench.run(1, 0, 0, 1, 5, 12, 2, 0, 4, 0));
        Bench.add(x, 0, Bench.run(0, 5, 2, 3, 18, 9));
        return x;
    }

    /** Both of these in CONTROLLER 0, which is UP. */
    private static RunClasses twoUp() {
        RunClasses x = two();
        x.make(0, 1);
        x.make(0, 2);
        x.power(0);
        return x;
    }

    private static void terms(String words) {
        bench.sentence("Terms, CONTROLLERS", words);
    }

    private static void controllers() {
        terms("CONTROLLERS are 0 .. 7.");
        RunClasses x = two();
        for (int c = 0; c < 8; c++) {
            bench.due("make", x.make(c, 1), 1);
            bench.due("power", x.power(c), 1);
            bench.due("run", x.run(c, 1), 1);
            bench.due("beside", x.beside(c, 1), 1);
            bench.due("port", x.port(c, 0), 1);
            bench.due("cell", x.cell(c, 1, 0), 1);
            bench.due("set", x.set(c, 0, 5), 1);
            bench.due("same", x.same(0, c, 1), true);
            bench.due("fault", x.fault(c, 5), 1);
        }
        for (int no : Bench.NO_CONTROLLERS) {
            bench.due("make", x.make(no, 2), -1);
            bench.due("power", x.power(no), -1);
            bench.due("run", x.run(no, 1), -1);
            bench.due("beside", x.beside(no, 1), -1);
            bench.due("port", x.port(no, 0), 0);
            bench.due("cell", x.cell(no, 1, 0), 0);
            bench.due("set", x.set(no, 0, 5), -1);
            bench.due("same", x.same(0, no, 1), false);
            bench.due("fault", x.fault(no, 5), -1);
        }

        terms("Each has PORTS 0 .. 7 (0 at first),");
        RunClasses y = new RunClasses(100);
        for (int c = 0; c < 8; c++) {
            bench.duePorts(y, c, 0, 0, 0, 0, 0, 0, 0, 0);
            for (int p = 0; p < 8; p++) {
                y.set(c, p, 100L * c + p + 1);
            }
        }
        for (int c = 0; c < 8; c++) {
            long v = 100L * c;
            bench.duePorts(y, c, v + 1, v + 2, v + 3, v + 4, v + 5, v + 6, v + 7, v + 8);
        }
        // the CLASSES of a CONTROLLER have its PORTS in common
        RunClasses shared = new RunClasses(100);
        Bench.add(shared, 0, Bench.run(0, 6, 4, 7));
        Bench.add(shared, 0, Bench.run(3, 7, 2, 0));
        shared.make(0, 1);
        shared.make(0, 2);
        shared.power(0);
        shared.run(0, 1);
        shared.run(0, 2);
        bench.due("what another CLASS took there", shared.cell(0, 2, 0), 6);

        terms("is UP or not (not at first),");
        RunClasses z = two();
        for (int c = 0; c < 8; c++) {
            bench.due("not at first", z.fault(c, 5), 0);
        }
        z.make(2, 1);
        bench.due("not by make", z.run(2, 1), -3);
        z.power(2);
        bench.due("UP", z.fault(2, 5), 1);
        bench.due("another is not", z.fault(1, 5), 0);
        z.reset(2);
        bench.due("not any more", z.fault(2, 5), 0);
    }

    private static void reactions() {
        terms("and has a REACTION: 0 nothing more, 1 the CLASS is STOPPED, "
                + "2 the CONTROLLER is UP no more (0 at first).");
        for (int c = 0; c < 8; c++) {
            bench.due("0 at first", new RunClasses(5).reaction(c, 2), 0);
        }
        RunClasses first = twoUp();
        bench.due("0 at first", first.run(0, 2), 16);
        bench.due("nothing more", first.run(0, 2), 16);
        for (int reaction = 0; reaction <= 2; reaction++) {
            RunClasses x = twoUp();
            x.make(1, 2);
            x.power(1);
            x.reaction(0, reaction);
            bench.due("FAILS", x.run(0, 2), 16);
            bench.due("UP", x.fault(0, 5), reaction == 2 ? 0 : 1);
            bench.due("the CLASS", x.run(0, 2), reaction == 0 ? 16 : -3);
            bench.due("another CLASS", x.run(0, 1), reaction == 2 ? -3 : 1);
            bench.due("how many FAULTS", x.fault(0, 4), reaction == 0 ? 2 : 1);
            bench.due("another CONTROLLER", x.run(1, 2), 16);
            bench.due("another CONTROLLER", x.run(1, 2), 16);
            bench.due("power", x.power(0), reaction == 2 ? 1 : -3);
            bench.due("STOPPED or not", x.run(0, 2), reaction == 1 ? -3 : 16);
            bench.due("it is the REACTION still", x.reaction(0, 0), reaction);
        }
        RunClasses late = twoUp();
        late.run(0, 2);
        late.reaction(0, 2);
        bench.due("set behind the FAULT", late.fault(0, 5), 1);
        late.run(0, 1);
        bench.due("a CALL that is done has none", late.fault(0, 5), 1);
        late.run(0, 2);
        bench.due("the next FAULT has it", late.fault(0, 5), 0);
    }

    /** START appends the number to port 0: port 0 = 10 * port 0 + number. */
    private static int[] appending(int number) {
        return Bench.start(3, 0, 0, 10, 7, 0, number, 5, 4, 0);
    }

    private static void power() {
        bench.sentence("Promise 5", "A CONTROLLER'S start: the START members of its CLASSES of newest "
                + "EDITIONS that have one are called");
        RunClasses x = new RunClasses(100);
        Bench.add(x, 0, appending(1), Bench.run(18, 1));
        Bench.add(x, 0, Bench.run(18, 1));
        Bench.add(x, 0, Bench.run(18, 1), appending(3));
        Bench.add(x, 0, Bench.start(18, 1), Bench.run());
        x.make(0, 1);
        x.make(0, 2);
        x.make(0, 3);
        x.make(1, 1);
        bench.due("power", x.power(0), 1);
        bench.due("all that have one", x.port(0, 0), 13);
        bench.due("another CONTROLLER's are not", x.port(1, 0), 0);
        bench.due("of no CLASSES", x.power(2), 1);
        RunClasses y = new RunClasses(100);
        Bench.add(y, 0, Bench.start(18, 1), Bench.run());
        Bench.add(y, 0, Bench.start(0, 6, 4, 6), Bench.run());
        y.make(0, 1);
        y.make(0, 2);
        y.make(1, 1);
        Bench.add(y, 1, Bench.start(18, 2), Bench.run());
        bench.due("one of an older EDITION is not", y.power(0), 1);
        bench.due("the next one is", y.port(0, 6), 6);
        y.update(1, 1);
        bench.due("one of the newest is", y.power(1), 16);
        bench.due("by its own START", y.fault(1, 3), 2);
        // neither is one by the newest EDITION while the CLASS is of one that had none
        RunClasses z = Bench.made(100, Bench.run());
        Bench.add(z, 1, Bench.start(18, 2), Bench.run());
        bench.due("of an older one without START", z.power(0), 1);

        bench.sentence("Promise 5", "(of STOPPED ones too),");
        x.reaction(0, 1);
        x.run(0, 3);
        bench.due("STOPPED", x.run(0, 3), -3);
        x.reaction(0, 2);
        x.run(0, 1);
        x.set(0, 0, 0);
        bench.due("power", x.power(0), 1);
        bench.due("the STOPPED one too", x.port(0, 0), 13);
        bench.due("it is STOPPED still", x.run(0, 3), -3);
        stoppedOneFails();

        bench.sentence("Promise 5", "by the numbers of RUNNABLES:");
        RunClasses order = new RunClasses(100);
        for (int number = 1; number <= 9; number++) {
            Bench.add(order, 0, appending(number), Bench.run());
        }
        for (int number : new int[] {5, 9, 1, 7, 3, 2, 8, 4, 6}) {
            order.make(3, number);
        }
        order.power(3);
        bench.due("not as they were made", order.port(3, 0), 123456789);
        RunClasses all = new RunClasses(100);
        for (int number = 1; number <= 20; number++) {
            Bench.add(all, 0, Bench.start(3, 0, 0, 1, 5, 12, 4, 0, 2, 0), Bench.run());
        }
        for (int number = 20; number >= 1; number--) {
            all.make(0, number);
        }
        all.power(0);
        for (int number = 1; number <= 20; number++) {
            bench.due("the place of " + number, all.cell(0, number, 0), number);
        }

        bench.sentence("Promise 5", "1, it is UP then;");
        bench.due("not UP", order.fault(4, 5), 0);
        bench.due("power", order.power(4), 1);
        bench.due("UP", order.fault(4, 5), 1);
        bench.due("UP", order.fault(3, 5), 1);
        bench.due("a CLASS runs", order.run(3, 5), 1);
    }

    private static void stoppedOneFails() {
        RunClasses x = Bench.made(100, Bench.start(3, 0, 14, 2, 18, 4), Bench.run(18, 1));
        Bench.add(x, 0, Bench.run(18, 2));
        x.make(0, 2);
        x.power(0);
        x.reaction(0, 1);
        x.run(0, 1);
        x.reaction(0, 2);
        x.run(0, 2);
        x.set(0, 0, 1);
        bench.due("START of a STOPPED one FAILS", x.power(0), 16);
        bench.dueFault(x, 0, 6, 1, 3, 4, 3, 0);
    }

    private static void powerFails() {
        bench.sentence("Promise 5", "or, of the first one that FAILS, 10 and the kind:");
        int[][] codes = {{99}, {3, 8}, {12}, {0, 1, 0, 0, 9}, {17}, {18, 77}, {13, 254}};
        for (int kind = 1; kind <= 7; kind++) {
            RunClasses x = new RunClasses(100);
            Bench.add(x, 0, Bench.start(), Bench.run());
            Bench.add(x, 0, Bench.start(codes[kind - 1]), Bench.run());
            Bench.add(x, 0, Bench.start(codes[kind % 7]), Bench.run());
            x.make(0, 3);
            x.make(0, 1);
            x.make(0, 2);
            bench.due("power", x.power(0), 10 + kind);
            bench.due("its kind", x.fault(0, 0), kind);
            bench.due("its RUNNABLE", x.fault(0, 1), 2);
            bench.due("one FAULT", x.fault(0, 4), 1);
        }

        bench.sentence("Promise 5",
                "then it is not UP, and no other is called (no REACTION follows).");
        for (int reaction = 0; reaction <= 2; reaction++) {
            RunClasses x = new RunClasses(100);
            Bench.add(x, 0, Bench.start(0, 1, 4, 1), Bench.run());
            Bench.add(x, 0, Bench.start(0, 2, 4, 2, 0, 3, 2, 3, 16, 4, 18, 8), Bench.run());
            Bench.add(x, 0, Bench.start(0, 3, 4, 3, 17), Bench.run());
            x.make(0, 1);
            x.make(0, 2);
            x.make(0, 3);
            x.reaction(0, reaction);
            bench.due("power", x.power(0), 16);
            bench.dueFault(x, 0, 6, 2, 6, 8, 1, 0);
            bench.due("not UP", x.run(0, 1), -3);
            bench.due("the first was called", x.port(0, 1), 1);
            bench.due("what became up to there stays", x.port(0, 2), 2);
            bench.due("what became up to there stays", x.cell(0, 2, 3), 3);
            bench.due("its HANDLE stays", Bench.handleOf(x, 0, 2), Bench.THROWN);
            bench.due("no other was called", x.port(0, 3), 0);
            Bench.add(x, 2, Bench.start(), Bench.run());
            x.update(0, 2);
            bench.due("the next one FAILS", x.power(0), 15);
            bench.dueFault(x, 0, 5, 3, 3, 0, 2, 0);
            Bench.add(x, 3, Bench.start(), Bench.run());
            x.update(0, 3);
            bench.due("none FAILS", x.power(0), 1);
            bench.due("REACTION is as it was", x.reaction(0, 0), reaction);
        }
        // STOPPED by no REACTION: the CLASS runs, once its START does well
        RunClasses y = Bench.made(100, Bench.start(3, 0, 14, 2, 18, 1), Bench.run());
        y.reaction(0, 1);
        y.set(0, 0, 1);
        bench.due("power", y.power(0), 16);
        y.set(0, 0, 0);
        bench.due("power", y.power(0), 1);
        bench.due("not STOPPED", y.run(0, 1), 1);
    }

    private static void powerRefused() {
        bench.sentence("Promise 5", "-1 there is no such CONTROLLER,");
        RunClasses x = Bench.made(100, Bench.start(3, 0, 0, 1, 5, 4, 0), Bench.run());
        for (int no : Bench.NO_CONTROLLERS) {
            bench.due("controller " + no, x.power(no), -1);
        }
        bench.due("no START was called", x.port(0, 0), 0);

        bench.sentence("Promise 5", "-3 it is UP.");
        bench.due("not UP", x.power(0), 1);
        bench.due("UP", x.power(0), -3);
        bench.due("UP", x.power(0), -3);
        bench.due("START was called once", x.port(0, 0), 1);
        bench.due("UP still", x.fault(0, 5), 1);
        bench.due("another is not UP", x.power(7), 1);
        x.reset(0);
        bench.due("UP no more", x.power(0), 1);
    }

    private static void run() {
        bench.sentence("Promise 6", "A CALL of the RUN member of a CLASS: 1 it was done, "
                + "10 and the kind when it FAILED.");
        RunClasses x = twoUp();
        bench.due("run", x.run(0, 1), 1);
        bench.due("run", x.run(0, 1), 1);
        bench.due("cell", x.cell(0, 1, 0), 2);
        bench.due("port", x.port(0, 0), 2);
        bench.due("FAILED", x.run(0, 2), 16);
        bench.due("cell", x.cell(0, 2, 3), 5);
        int[][] codes = {{99}, {3, 8}, {12}, {0, 1, 0, 0, 9}, {17}, {18, 77}, {13, 254}};
        for (int kind = 1; kind <= 7; kind++) {
            RunClasses y = Bench.made(100, Bench.start(0, 1, 4, 0), Bench.run(codes[kind - 1]));
            y.power(0);
            y.set(0, 0, 0);
            bench.due("kind", y.run(0, 1), 10 + kind);
            bench.due("START is not called", y.port(0, 0), 0);
        }
    }

    private static void runRefused() {
        bench.sentence("Promise 6", "-1 there is no such CONTROLLER or RUNNABLE,");
        RunClasses x = twoUp();
        for (int no : Bench.NO_CONTROLLERS) {
            bench.due("controller " + no, x.run(no, 1), -1);
        }
        for (int no : NO_RUNNABLES) {
            bench.due("runnable " + no, x.run(0, no), -1);
            bench.due("-1 before -3: runnable " + no, x.run(1, no), -1);
        }

        bench.sentence("Promise 6", "-3 the CONTROLLER is not UP,");
        x.make(1, 1);
        bench.due("not UP", x.run(1, 1), -3);
        x.power(1);
        bench.due("UP", x.run(1, 1), 1);
        x.reset(1);
        bench.due("UP no more", x.run(1, 1), -3);
        bench.due("nothing became", x.cell(1, 1, 0), 0);

        bench.sentence("Promise 6", "has no CLASS of it,");
        x.power(1);
        bench.due("has one", x.run(1, 1), 1);
        bench.due("has none", x.run(1, 2), -3);
        bench.due("has none, nor is it UP", x.run(2, 1), -3);

        bench.sentence("Promise 6", "or that is STOPPED");
        x.reaction(0, 1);
        bench.due("not STOPPED", x.run(0, 2), 16);
        bench.due("STOPPED", x.run(0, 2), -3);
        bench.due("no FAULT of that", x.fault(0, 4), 1);
        bench.due("another is not", x.run(0, 1), 1);

        bench.sentence("Promise 6", "or of an EDITION that is not the newest (that never runs).");
        Bench.add(x, 1, Bench.run(0, 1, 2, 7));
        bench.due("not the newest", x.run(0, 1), -3);
        bench.dueCells(x, 0, 1, 1, 0, 0, 0, 0, 0, 0, 0);
        Bench.add(x, 1, Bench.run(0, 2, 2, 7));
        bench.due("not the newest", x.run(0, 1), -3);
        x.update(0, 1);
        bench.due("the newest", x.run(0, 1), 1);
        bench.dueCells(x, 0, 1, 1, 0, 0, 0, 0, 0, 0, 2);
        bench.due("never, also once UP anew", anewWithOlder(), -3);
    }

    private static int anewWithOlder() {
        RunClasses x = Bench.made(100, Bench.run());
        Bench.add(x, 1, Bench.run());
        x.power(0);
        return x.run(0, 1);
    }

    private static void beside() {
        bench.sentence("Promise 7", "What run() would answer;");
        RunClasses x = two();
        for (int no : Bench.NO_CONTROLLERS) {
            bench.due("controller " + no, x.beside(no, 1), -1);
        }
        for (int no : NO_RUNNABLES) {
            bench.due("runnable " + no, x.beside(0, no), -1);
        }
        int before = x.refused();
        bench.due("no CLASS", x.beside(0, 1), -3);
        x.make(0, 1);
        x.make(0, 2);
        bench.due("not UP", x.beside(0, 1), -3);
        x.power(0);
        bench.due("done", x.beside(0, 1), 1);
        bench.due("FAILS", x.beside(0, 2), 16);
        bench.due("no CLASS", x.beside(1, 1), -3);
        x.reaction(0, 1);
        x.run(0, 2);
        bench.due("STOPPED", x.beside(0, 2), -3);
        Bench.add(x, 1, Bench.run());
        bench.due("an older EDITION", x.beside(0, 1), -3);
        bench.due("these were refused", x.refused(), before + 5);
        int[][] codes = {{99}, {3, 8}, {12}, {0, 1, 0, 0, 9}, {17}, {18, 77}, {13, 254}};
        for (int kind = 1; kind <= 7; kind++) {
            bench.due("kind", Bench.ready(100, codes[kind - 1]).beside(0, 1), 10 + kind);
        }
        // it goes by what it takes itself, as run() would
        bench.due("its own cell", Bench.ready(9, 0, 1, 2, 0, 1, 0, 14, 2, 18, 1).beside(0, 1), 16);
        bench.due("its own port", Bench.ready(9, 0, 1, 4, 0, 3, 0, 14, 2, 18, 1).beside(0, 1), 16);
        bench.due("its own HANDLE",
                Bench.ready(9, 0, 1, 4, 2, 16, 2, 17, 14, 2, 18, 1).beside(0, 1), 16);
        // and by the ports and cells as they are now
        RunClasses y = Bench.ready(100, 3, 0, 14, 2, 18, 3);
        bench.due("port 0 is 0", y.beside(0, 1), 1);
        y.set(0, 0, 1);
        bench.due("port 0 is 1", y.beside(0, 1), 16);
        for (int k = 0; k < 8; k++) {
            // gives up once cell k has something, and fills it if it has not
            RunClasses z = Bench.ready(100, 1, k, 14, 2, 18, 3, 0, 1, 2, k);
            bench.due("cell " + k + " is 0", z.beside(0, 1), 1);
            z.run(0, 1);
            bench.due("cell " + k + " is 1", z.beside(0, 1), 16);
            bench.due("as run() answers", z.run(0, 1), 16);
            z.reset(0);
            z.power(0);
            bench.due("cell " + k + " is 0 again", z.beside(0, 1), 1);
        }
    }

    private static void besideChangesNothing() {
        bench.sentence("Promise 7", "nothing changes (but how many were refused).");
        RunClasses x = new RunClasses(100);
        Bench.add(x, 0, Bench.run(0, 1, 2, 0, 0, 2, 4, 1, 16, 3, 18, 4));
        Bench.add(x, 0, Bench.run(0, 1, 2, 7, 0, 2, 4, 7, 16, 3, 17));
        x.make(0, 1);
        x.make(0, 2);
        x.power(0);
        for (int reaction = 0; reaction <= 2; reaction++) {
            x.reaction(0, reaction);
            for (int again = 0; again < 2; again++) {
                bench.due("FAILS", x.beside(0, 1), 16);
                bench.due("done", x.beside(0, 2), 1);
            }
        }
        bench.dueFault(x, 0, 0, 0, 0, 0, 0, 1);
        bench.duePorts(x, 0, 0, 0, 0, 0, 0, 0, 0, 0);
        bench.dueCells(x, 0, 1, 0, 0, 0, 0, 0, 0, 0, 0);
        bench.dueCells(x, 0, 2, 0, 0, 0, 0, 0, 0, 0, 0);
        bench.due("HANDLE", Bench.handleOf(x, 0, 1), -3);
        bench.due("HANDLE", Bench.handleOf(x, 0, 2), -3);
        int before = x.refused();
        bench.due("refused", x.beside(1, 1), -3);
        bench.due("refused", x.beside(8, 1), -1);
        bench.due("two were refused", x.refused(), before + 2);
        // a HANDLE, a FAULT and cells from before stand through it
        x.reaction(0, 0);
        x.run(0, 1);
        x.run(0, 2);
        x.set(0, 1, 50);
        x.beside(0, 2);
        x.beside(0, 1);
        bench.dueFault(x, 0, 6, 1, 6, 4, 1, 1);
        bench.duePorts(x, 0, 0, 50, 0, 0, 0, 0, 0, 2);
        bench.dueCells(x, 0, 2, 0, 0, 0, 0, 0, 0, 0, 1);
        bench.due("HANDLE", Bench.handleOf(x, 0, 2), Bench.THROWN);
        // what was tried beside is not there for the next one
        RunClasses y = Bench.ready(100, 1, 0, 3, 0, 5, 0, 1, 5, 12, 2, 0, 12, 4, 0,
                0, 2, 10, 14, 1, 13, 1, 19);
        y.beside(0, 1);
        y.beside(0, 1);
        y.run(0, 1);
        bench.due("one run alone", y.cell(0, 1, 0), 1);
    }

    private static void port() {
        bench.sentence("Promise 8", "What a port has;");
        RunClasses x = Bench.ready(100, 3, 0, 4, 7);
        x.set(0, 0, Long.MIN_VALUE);
        x.run(0, 1);
        bench.duePorts(x, 0, Long.MIN_VALUE, 0, 0, 0, 0, 0, 0, Long.MIN_VALUE);
        bench.duePorts(x, 7, 0, 0, 0, 0, 0, 0, 0, 0);

        bench.sentence("Promise 8", "0 when there is no such CONTROLLER or port.");
        for (int p : NO_PORTS) {
            bench.due("port " + p, x.port(0, p), 0);
        }
        for (int no : Bench.NO_CONTROLLERS) {
            bench.due("controller " + no, x.port(no, 0), 0);
            bench.due("controller " + no + ", and no port", x.port(no, no), 0);
        }
        bench.due("it refuses nothing", x.refused(), 0);
    }

    private static void set() {
        bench.sentence("Promise 9", "A port becomes v: 1.");
        RunClasses x = new RunClasses(100);
        for (long v : new long[] {5, -1, 0, Long.MIN_VALUE, Long.MAX_VALUE, 1L << 32}) {
            bench.due("set", x.set(3, 4, v), 1);
            bench.duePorts(x, 3, 0, 0, 0, 0, v, 0, 0, 0);
        }
        bench.due("port 0", x.set(0, 0, 2), 1);
        bench.due("port 7", x.set(7, 7, 3), 1);
        bench.duePorts(x, 0, 2, 0, 0, 0, 0, 0, 0, 0);
        bench.duePorts(x, 7, 0, 0, 0, 0, 0, 0, 0, 3);
        x.power(0);
        bench.due("in one that is UP", x.set(0, 0, 9), 1);
        bench.due("port 0", x.port(0, 0), 9);

        bench.sentence("Promise 9", "-1 there is no such CONTROLLER or port.");
        for (int p : NO_PORTS) {
            bench.due("port " + p, x.set(0, p, 5), -1);
        }
        for (int no : Bench.NO_CONTROLLERS) {
            bench.due("controller " + no, x.set(no, 0, 5), -1);
            bench.due("controller " + no + ", and no port", x.set(no, no, 5), -1);
        }
        bench.due("refused", x.refused(), NO_PORTS.length + 2 * Bench.NO_CONTROLLERS.length);
        bench.duePorts(x, 0, 9, 0, 0, 0, 0, 0, 0, 0);
    }

    private static void reaction() {
        bench.sentence("Promise 11", "The REACTION: what it was.");
        RunClasses x = new RunClasses(100);
        bench.due("0 at first", x.reaction(0, 2), 0);
        bench.due("2 before", x.reaction(0, 1), 2);
        bench.due("1 before", x.reaction(0, 1), 1);
        bench.due("1 before", x.reaction(0, 0), 1);
        bench.due("0 before", x.reaction(0, 1), 0);
        bench.due("another's is its own", x.reaction(7, 2), 0);
        bench.due("another's is its own", x.reaction(0, 1), 1);

        bench.sentence("Promise 11", "-1 there is no such CONTROLLER,");
        for (int no : Bench.NO_CONTROLLERS) {
            bench.due("controller " + no, x.reaction(no, 0), -1);
            bench.due("-1 before -2", x.reaction(no, 3), -1);
        }

        bench.sentence("Promise 11", "-2 it is not 0 .. 2.");
        for (int no : new int[] {-1, 3, 4, 256, Integer.MIN_VALUE, Integer.MAX_VALUE}) {
            bench.due("reaction " + no, x.reaction(0, no), -2);
        }
        bench.due("it is as it was", x.reaction(0, 2), 1);
        bench.due("2 is one", x.reaction(0, 0), 2);
        bench.due("0 is one", x.reaction(0, 0), 0);
    }

    private static void reset() {
        bench.sentence("Promise 13", "A CONTROLLER is UP no more;");
        RunClasses x = new RunClasses(100);
        Bench.add(x, 0, Bench.run(0, 1, 2, 0, 0, 2, 2, 7, 0, 3, 4, 4, 16, 2, 18, 5));
        Bench.add(x, 0, Bench.run(0, 1, 2, 0), Bench.start(3, 0, 0, 1, 5, 4, 0));
        Bench.add(x, 0, Bench.run());
        x.make(0, 1);
        x.make(0, 2);
        x.make(1, 2);
        x.power(0);
        x.power(1);
        x.run(1, 2);
        x.set(1, 1, 5);
        x.reaction(0, 1);
        x.run(0, 2);
        bench.due("FAILS", x.run(0, 1), 16);
        Bench.add(x, 2, Bench.run(0, 7, 2, 1), Bench.start(3, 0, 0, 2, 5, 4, 0));
        bench.due("reset", x.reset(0), 2);
        bench.due("UP no more", x.fault(0, 5), 0);
        bench.due("UP no more", x.run(0, 2), -3);
        bench.due("another is UP", x.fault(1, 5), 1);

        bench.sentence("Promise 13", "its ports are 0,");
        bench.duePorts(x, 0, 0, 0, 0, 0, 0, 0, 0, 0);
        bench.duePorts(x, 1, 1, 5, 0, 0, 0, 0, 0, 0);
        for (int p = 0; p < 8; p++) {
            x.set(2, p, p + 1);
        }
        x.reset(2);
        bench.duePorts(x, 2, 0, 0, 0, 0, 0, 0, 0, 0);

        bench.sentence("Promise 13", "its CLASSES are made anew, of the newest EDITIONS;");
        bench.dueCells(x, 0, 1, 0, 0, 0, 0, 0, 0, 0, 0);
        bench.dueCells(x, 0, 2, 0, 0, 0, 0, 0, 0, 0, 0);
        bench.due("another's is as it was", x.cell(1, 2, 0), 1);
        bench.due("no HANDLE", Bench.handleOf(x, 0, 1), -3);
        bench.due("of the newest", x.update(0, 2), -3);
        bench.due("another's is of the older one", x.run(1, 2), -3);
        bench.due("none that was not there", x.make(0, 3), 1);
        bench.due("power", x.power(0), 1);
        bench.due("START of the newest", x.port(0, 0), 2);
        bench.due("not STOPPED", x.run(0, 1), 16);
        bench.due("the newest runs", x.run(0, 2), 1);
        bench.dueCells(x, 0, 2, 0, 7);

        bench.sentence("Promise 13", "its FAULT and REACTION stay:");
        bench.due("STOPPED by the REACTION", x.run(0, 1), -3);
        bench.dueFault(x, 0, 6, 1, 8, 5, 2, 1);
        x.reset(0);
        bench.dueFault(x, 0, 6, 1, 8, 5, 2, 0);
        x.reset(0);
        bench.dueFault(x, 0, 6, 1, 8, 5, 2, 0);
        bench.due("REACTION", x.reaction(0, 2), 1);
        x.reset(0);
        bench.due("REACTION", x.reaction(0, 0), 2);

        bench.sentence("Promise 13", "how many CLASSES it has.");
        bench.due("three", x.reset(0), 3);
        bench.due("one", x.reset(1), 1);
        bench.due("none", x.reset(2), 0);
        RunClasses y = new RunClasses(100);
        for (int number = 1; number <= 20; number++) {
            Bench.add(y, 0, Bench.run());
            y.make(7, number);
            bench.due("so many", y.reset(7), number);
        }

        bench.sentence("Promise 13", "-1 there is no such CONTROLLER.");
        for (int no : Bench.NO_CONTROLLERS) {
            bench.due("controller " + no, x.reset(no), -1);
        }
    }

    private static void fault() {
        bench.sentence("Promise 14", "Of a CONTROLLER's latest FAULT: what = 0 its kind "
                + "(0: none yet), 1 its RUNNABLE, 2 its STEPS, 3 its k;");
        RunClasses x = two();
        x.make(3, 1);
        x.make(3, 2);
        x.power(3);
        x.run(3, 1);
        bench.dueFault(x, 3, 0, 0, 0, 0);
        x.run(3, 2);
        bench.dueFault(x, 3, 6, 2, 3, 9);
        x.run(3, 1);
        bench.dueFault(x, 3, 6, 2, 3, 9);
        Bench.add(x, 1, Bench.run(0, 1, 12, 2, 9));
        x.update(3, 1);
        x.run(3, 1);
        bench.dueFault(x, 3, 2, 1, 3, 0);
        bench.dueFault(x, 2, 0, 0, 0, 0);

        bench.sentence("Promise 14", "4 how many FAULTS there were;");
        bench.due("two", x.fault(3, 4), 2);
        bench.due("none", x.fault(2, 4), 0);
        for (int more = 3; more <= 20; more++) {
            x.run(3, 2);
            bench.due("so many", x.fault(3, 4), more);
        }
        x.beside(3, 2);
        x.run(3, 3);
        x.power(3);
        bench.due("none more by beside or a refused call", x.fault(3, 4), 20);
        Bench.add(x, 2, Bench.start(18, 1), Bench.run());
        x.reset(3);
        x.power(3);
        bench.due("one by a START", x.fault(3, 4), 21);

        bench.sentence("Promise 14", "5 whether it is UP (1, 0).");
        bench.due("not UP", x.fault(3, 5), 0);
        bench.due("not UP at first", x.fault(4, 5), 0);
        x.power(4);
        bench.due("UP", x.fault(4, 5), 1);
        bench.due("another", x.fault(5, 5), 0);
        x.reset(4);
        bench.due("UP no more", x.fault(4, 5), 0);

        bench.sentence("Promise 14", "-1 there is no such CONTROLLER,");
        for (int no : Bench.NO_CONTROLLERS) {
            bench.due("controller " + no, x.fault(no, 0), -1);
            bench.due("-1 before -2", x.fault(no, 6), -1);
        }

        bench.sentence("Promise 14", "-2 no such what.");
        for (int no : new int[] {-1, 6, 7, 256, Integer.MIN_VALUE, Integer.MAX_VALUE}) {
            bench.due("what " + no, x.fault(3, no), -2);
        }
    }
}
