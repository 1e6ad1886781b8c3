import java.util.ArrayList;
import java.util.List;

/** What a refused call answers and changes, promise 19: refused, and the last of the 512 calls. */
public final class RefusalsTest {
    private static final Bench bench = new Bench();
    private static final int[] NO_RUNNABLES =
        {0, -1, 5, 20, 21, 256, Integer.MIN_VALUE, Integer.MAX_VALUE};
    private static final int[] NO_PORTS = {-1, 8, 256, Integer.MIN_VALUE, Integer.MAX_VALUE};
    private static final int MOST_CALLS = 512;

    /** An object in some state, made anew each time. */
    private interface Scene {
        RunClasses made();
    }

    /** A call, and what it answers. */
    private interface Call {
        int of(RunClasses x);
    }

    public static void main(String[] args) {
        refusalsChangeNothing();
        fileUnderWay();
        firstThatFits();
        refused();
        lastCall();
        bench.end();
    }

    /**
     * CONTROLLER 0 is UP, with CLASSES of RUNNABLES 1 (that FAILED and keeps a HANDLE), 2 (of an
     * older EDITION) and 3 (STOPPED); CONTROLLER 1 is not UP, with CLASSES of 1, 2 and 4;
     * CONTROLLER 2 is UP with none; the FILE under way is RIGHT.
     */
    private static RunClasses someState() {
        RunClasses x = new RunClasses(100);
        Bench.add(x, 0, Bench.start(16, 1, 0, 1, 2, 0), Bench.run(0, 9, 2, 1, 16, 2, 0, 7, 4, 3, 18, 5));
        Bench.add(x, 0, Bench.run(1, 2, 0, 1, 5, 2, 2));
        Bench.add(x, 0, Bench.run(18, 3));
        Bench.add(x, 0, Bench.run(1, 3, 0, 1, 5, 2, 3));
        for (int number = 1; number <= 3; number++) {
            x.make(0, number);
        }
        x.make(1, 1);
        x.make(1, 2);
        x.make(1, 4);
        x.power(0);
        x.power(2);
        x.reaction(0, 1);
        x.run(0, 3);
        x.reaction(0, 0);
        x.run(0, 1);
        x.run(0, 2);
        Bench.add(x, 2, Bench.run(1, 2, 0, 2, 5, 2, 2));
        x.reaction(2, 2);
        x.set(0, 5, 55);
        x.set(1, 6, 66);
        Bench.send(x, Bench.run(0, 5));
        return x;
    }

    /** The FILE under way is RIGHT, and has room for two octets more. */
    private static RunClasses nearlyFullFile() {
        RunClasses x = new RunClasses(100);
        Bench.send(x, Bench.run(new int[116]));
        return x;
    }

    /** There are 20 RUNNABLES, RUNNABLE 1 has 9 EDITIONS, and the FILE under way is RIGHT. */
    private static RunClasses noRoom() {
        RunClasses x = new RunClasses(100);
        for (int number = 1; number <= 20; number++) {
            Bench.add(x, 0, Bench.run());
        }
        for (int edition = 2; edition <= 9; edition++) {
            Bench.add(x, 1, Bench.run(0, edition));
        }
        Bench.send(x, Bench.run(0, 5));
        return x;
    }

    private static void refusalsChangeNothing() {
        bench.sentence("Terms, REFUSALS", "REFUSALS change nothing but how many there were");
        for (Call call : unknownOnes()) {
            dueRefused(RefusalsTest::someState, call, -1);
        }
        for (Call call : outsideOnes()) {
            dueRefused(RefusalsTest::someState, call, -2);
        }
        for (Call call : notInThisState()) {
            dueRefused(RefusalsTest::someState, call, -3);
        }
        for (int n = 3; n <= 8; n++) {
            int some = n;
            dueRefused(RefusalsTest::nearlyFullFile, x -> x.file(-1, some), -4);
        }
        dueRefused(RefusalsTest::noRoom, x -> x.runnable(0), -4);
        dueRefused(RefusalsTest::noRoom, x -> x.runnable(1), -4);
        dueRefused(RefusalsTest::noRoom, x -> x.runnable(21), -1);
    }

    /** The call is refused, once and ten times over; all else answers as if it had not been. */
    private static void dueRefused(Scene scene, Call call, int why) {
        String untouched = allThatShows(scene.made());
        for (int times : new int[] {1, 10}) {
            RunClasses x = scene.made();
            int before = x.refused();
            for (int i = 0; i < times; i++) {
                bench.due("the refused call", call.of(x), why);
            }
            bench.due("how many", x.refused(), before + times);
            String touched = allThatShows(x);
            bench.due("all is as it was: " + untouched + " and is now " + touched,
                    touched.equals(untouched), true);
        }
    }

    private static List<Call> unknownOnes() {
        List<Call> calls = new ArrayList<>();
        for (int no : Bench.NO_CONTROLLERS) {
            calls.add(x -> x.make(no, 1));
            calls.add(x -> x.power(no));
            calls.add(x -> x.run(no, 1));
            calls.add(x -> x.beside(no, 1));
            calls.add(x -> x.set(no, 0, 5));
            calls.add(x -> x.reaction(no, 1));
            calls.add(x -> x.update(no, 1));
            calls.add(x -> x.reset(no));
            calls.add(x -> x.fault(no, 0));
            calls.add(x -> Bench.handleOf(x, no, 1));
        }
        for (int no : NO_RUNNABLES) {
            calls.add(x -> no == 0 ? x.runnable(5) : x.runnable(no));
            calls.add(x -> x.make(3, no));
            calls.add(x -> x.run(0, no));
            calls.add(x -> x.beside(0, no));
            calls.add(x -> x.update(0, no));
            calls.add(x -> Bench.handleOf(x, 0, no));
        }
        for (int no : NO_PORTS) {
            calls.add(x -> x.set(0, no, 5));
        }
        return calls;
    }

    private static List<Call> outsideOnes() {
        List<Call> calls = new ArrayList<>();
        for (int no : new int[] {0, -1, 9, Integer.MIN_VALUE, Integer.MAX_VALUE}) {
            calls.add(x -> x.file(-1, no));
        }
        for (int no : new int[] {-1, 3, Integer.MIN_VALUE, Integer.MAX_VALUE}) {
            calls.add(x -> x.reaction(0, no));
        }
        for (int no : new int[] {-1, 6, Integer.MIN_VALUE, Integer.MAX_VALUE}) {
            calls.add(x -> x.fault(0, no));
        }
        return calls;
    }

    private static List<Call> notInThisState() {
        List<Call> calls = new ArrayList<>();
        // UP; has one of that RUNNABLE
        calls.add(x -> x.make(0, 4));
        calls.add(x -> x.make(0, 1));
        calls.add(x -> x.make(1, 1));
        calls.add(x -> x.make(1, 2));
        // UP
        calls.add(x -> x.power(0));
        calls.add(x -> x.power(2));
        // not UP; no CLASS; an older EDITION; STOPPED
        int[][] notRun = {{1, 1}, {1, 4}, {3, 1}, {0, 4}, {2, 1}, {0, 2}, {0, 3}};
        for (int[] one : notRun) {
            calls.add(x -> x.run(one[0], one[1]));
            calls.add(x -> x.beside(one[0], one[1]));
        }
        // no CLASS; of the newest one
        calls.add(x -> x.update(0, 4));
        calls.add(x -> x.update(3, 1));
        calls.add(x -> x.update(0, 1));
        calls.add(x -> x.update(0, 3));
        // no CLASS; it keeps none
        calls.add(x -> Bench.handleOf(x, 0, 4));
        calls.add(x -> Bench.handleOf(x, 3, 1));
        calls.add(x -> Bench.handleOf(x, 0, 2));
        return calls;
    }

    /** All that the object tells, by calls that change nothing, and then by calls that do. */
    private static String allThatShows(RunClasses x) {
        StringBuilder all = new StringBuilder();
        for (int c = 0; c < 8; c++) {
            for (int what = 0; what <= 5; what++) {
                all.append(x.fault(c, what)).append(' ');
            }
        }
        for (int c = 0; c < 3; c++) {
            for (int k = 0; k < 8; k++) {
                all.append(x.port(c, k)).append(' ');
            }
        }
        for (int r = 1; r <= 4; r++) {
            classesShow(x, r, all);
            for (int i = 0; i < 4; i++) {
                all.append(Bench.octetOf(x, r, i)).append(' ');
            }
        }
        all.append("then ");
        for (int c = 0; c < 3; c++) {
            all.append(x.reaction(c, 0)).append(' ').append(x.power(c)).append(' ');
            for (int r = 1; r <= 4; r++) {
                all.append(x.run(c, r)).append(' ').append(x.update(c, r)).append(' ');
            }
        }
        fileShows(x, all);
        for (int c = 0; c < 8; c++) {
            all.append(x.reset(c)).append(' ');
        }
        return all.toString();
    }

    private static void classesShow(RunClasses x, int r, StringBuilder all) {
        for (int c = 0; c < 2; c++) {
            all.append(x.beside(c, r)).append(' ');
            all.append(Bench.handleOf(x, c, r)).append(' ');
            for (int k = 0; k < 8; k++) {
                all.append(x.cell(c, r, k)).append(' ');
            }
        }
        all.append(x.same(0, 1, r)).append(' ').append(x.same(1, 3, r)).append(' ');
    }

    /** The FILE under way and an empty member behind it, which is RIGHT if the FILE was. */
    private static void fileShows(RunClasses x, StringBuilder all) {
        all.append(x.file(0, 2)).append(' ');
        all.append(x.runnable(0)).append(' ').append(x.runnable(2)).append(' ');
        for (int r : new int[] {1, 2, 5}) {
            for (int i = 0; i < 8; i++) {
                all.append(Bench.octetOf(x, r, i)).append(' ');
            }
        }
        all.append(Bench.octetOf(x, 1, 119)).append(' ');
    }

    private static void fileUnderWay() {
        bench.sentence("Terms, REFUSALS", "(and the FILE under way, by runnable()),");
        RunClasses x = new RunClasses(100);
        Bench.add(x, 0, Bench.run());
        x.file(2, 1);
        bench.due("not RIGHT", x.runnable(0), -2);
        bench.due("it is empty", x.file(2, 1), 1);
        bench.due("not RIGHT", x.runnable(1), -2);
        bench.due("it is empty", x.file(2, 1), 1);
        bench.due("no such RUNNABLE", x.runnable(2), -1);
        bench.due("it is not", x.file(0, 1), 2);
        bench.due("nothing else has changed", x.runnable(0), 2);
        bench.due("how many", x.refused(), 3);
    }

    private static void firstThatFits() {
        bench.sentence("Terms, REFUSALS", "and answer, the first that fits: -1 an unknown number,");
        RunClasses x = someState();
        bench.due("-1 and -3: make", x.make(0, 5), -1);
        bench.due("-1 and -3: run", x.run(1, 5), -1);
        bench.due("-1 and -3: beside", x.beside(1, 5), -1);
        bench.due("-1 and -3: update", x.update(3, 5), -1);
        bench.due("-1 and -3: handle", Bench.handleOf(x, 3, 5), -1);
        bench.due("-1 and -2: reaction", x.reaction(8, 3), -1);
        bench.due("-1 and -2: fault", x.fault(-1, 6), -1);
        x.file(9, 1);
        bench.due("-1 and -2: runnable", x.runnable(5), -1);
        RunClasses y = noRoom();
        bench.due("-1 and -4: runnable", y.runnable(21), -1);

        bench.sentence("Terms, REFUSALS", "-2 outside a range,");
        bench.due("-2: runnable", x.runnable(1), -2);
        bench.due("-2: reaction", x.reaction(0, 3), -2);
        bench.due("-2: fault", x.fault(0, 6), -2);
        bench.due("-2: file", x.file(0, 9), -2);
        RunClasses full = new RunClasses(100);
        Bench.send(full, new int[120]);
        bench.due("-2 and -4: file", full.file(0, 9), -2);
        bench.due("-2 and -4: file", full.file(0, 0), -2);
        y.file(9, 1);
        bench.due("-2 and -4: runnable", y.runnable(1), -2);
        bench.due("-2 and -4: runnable", y.runnable(0), -2);

        bench.sentence("Terms, REFUSALS", "-3 not in this state,");
        bench.due("-3: make", x.make(0, 4), -3);
        bench.due("-3: power", x.power(0), -3);
        bench.due("-3: run", x.run(1, 1), -3);
        bench.due("-3: beside", x.beside(1, 1), -3);
        bench.due("-3: update", x.update(0, 1), -3);
        bench.due("-3: handle", Bench.handleOf(x, 1, 1), -3);

        bench.sentence("Terms, REFUSALS", "-4 no room.");
        bench.due("-4: file", full.file(0, 1), -4);
        RunClasses z = noRoom();
        bench.due("-4: runnable", z.runnable(0), -4);
        bench.due("-4: runnable", z.runnable(1), -4);
    }

    private static void refused() {
        bench.sentence("Promise 19", "How many were REFUSED.");
        RunClasses x = new RunClasses(100);
        bench.due("none", x.refused(), 0);
        x.file(0, 0);
        bench.due("file", x.refused(), 1);
        x.runnable(0);
        bench.due("runnable", x.refused(), 2);
        x.make(8, 1);
        bench.due("make", x.refused(), 3);
        x.power(8);
        bench.due("power", x.refused(), 4);
        x.run(0, 1);
        bench.due("run", x.refused(), 5);
        x.beside(0, 1);
        bench.due("beside", x.refused(), 6);
        x.set(0, 8, 1);
        bench.due("set", x.refused(), 7);
        x.reaction(0, 3);
        bench.due("reaction", x.refused(), 8);
        x.update(0, 1);
        bench.due("update", x.refused(), 9);
        x.reset(8);
        bench.due("reset", x.refused(), 10);
        x.fault(0, 6);
        bench.due("fault", x.refused(), 11);
        Bench.handleOf(x, 0, 1);
        bench.due("handle", x.refused(), 12);
        // what answers 0 or false, or throws, is not refused; nor a CALL that FAILS
        x.port(8, 0);
        x.cell(8, 1, 0);
        x.same(8, 9, 1);
        Bench.octetOf(x, 1, 0);
        Bench.divideOf(x, 1, 0);
        Bench.add(x, 0, Bench.run(16, 1, 18, 1), Bench.start());
        x.make(0, 1);
        x.power(0);
        x.run(0, 1);
        x.beside(0, 1);
        Bench.handleOf(x, 0, 1);
        Bench.add(x, 1, Bench.run(), Bench.start(18, 1));
        x.reset(0);
        x.power(0);
        bench.due("none of these", x.refused(), 12);
        bench.due("asking changes nothing", x.refused(), 12);
    }

    private static void lastCall() {
        bench.sentence("What it is", "An object is used for at most 512 calls after it has been made;");
        RunClasses refusing = new RunClasses(100);
        for (int i = 1; i < MOST_CALLS; i++) {
            refusing.power(8);
        }
        bench.due("the 512th call", refusing.refused(), MOST_CALLS - 1);
        // made ready by five calls, then 506 of run, then one that asks
        RunClasses endless = Bench.ready(65536, 1, 0, 0, 1, 5, 2, 0, 13, 247);
        RunClasses counting = Bench.ready(100, 1, 0, 0, 1, 5, 12, 2, 0, 4, 0);
        for (int i = 6; i < MOST_CALLS; i++) {
            endless.run(0, 1);
            counting.run(0, 1);
        }
        bench.due("the 512th call", endless.fault(0, 4), MOST_CALLS - 6);
        bench.due("the 512th call", counting.cell(0, 1, 0), MOST_CALLS - 6);
    }
}
