/** Promises 1, 2, 3 and 17: a new object, file, runnable, octet. */
public final class FilesTest {
    private static final Bench bench = new Bench();

    public static void main(String[] args) {
        newObject();
        budgets();
        file();
        fileFull();
        runnableNumbers();
        runnableRight();
        runnableFull();
        octet();
        bench.end();
    }

    private static void newObject() {
        RunClasses x = new RunClasses(10);
        bench.due("new: runnable 1", x.runnable(1), -1);
        bench.due("new: file empty", x.file(5, 1), 1);
        bench.due("new: refused", x.refused(), 1);
        for (int c = 0; c < 8; c++) {
            bench.dueFault(x, c, 0, 0, 0, 0, 0, 0);
            bench.due("new: reset", x.reset(c), 0);
            bench.due("new: reaction", x.reaction(c, 2), 0);
            for (int p = 0; p < 8; p++) {
                bench.due("new: port", x.port(c, p), 0);
            }
        }
    }

    /** A loop for ever, of one STEP a round, tells the budget. */
    private static void budgets() {
        int[][] pairs = {{Integer.MIN_VALUE, 0}, {-1, 0}, {0, 0}, {1, 1}, {2, 2}, {65535, 65535},
            {65536, 65536}, {65537, 65536}, {Integer.MAX_VALUE, 65536}};
        for (int[] pair : pairs) {
            RunClasses x = Bench.ready(pair[0], 13, -2);
            bench.due("budget " + pair[0], x.run(0, 1), 17);
            bench.dueFault(x, 0, 7, 1, pair[1], 0, 1, 1);
        }
        RunClasses exact = Bench.ready(3, 0, 1, 0, 2, 5);
        bench.due("budget just enough", exact.run(0, 1), 1);
        RunClasses few = Bench.ready(2, 0, 1, 0, 2, 5);
        bench.due("budget one too few", few.run(0, 1), 17);
        bench.due("budget 0, no CODE", Bench.ready(0).run(0, 1), 1);
        // the STEP beyond the budget is not made, so it can not fail in another way
        RunClasses wrongNext = Bench.ready(1, 0, 1, 19);
        bench.due("budget before a wrong octet", wrongNext.run(0, 1), 17);
        bench.due("budget 0 before a wrong octet", Bench.ready(0, 19).run(0, 1), 17);
    }

    private static void file() {
        RunClasses x = new RunClasses(10);
        bench.due("file n 0", x.file(1, 0), -2);
        bench.due("file n -1", x.file(1, -1), -2);
        bench.due("file n 9", x.file(1, 9), -2);
        bench.due("file n max", x.file(1, Integer.MAX_VALUE), -2);
        bench.due("file n min", x.file(1, Integer.MIN_VALUE), -2);
        bench.due("file 3", x.file(0x77777700_020B00L, 3), 3);
        bench.due("file 8", x.file(0x0102030405060708L, 8), 11);
        bench.due("file 1", x.file(-1L, 1), 12);
        bench.due("runnable with an octet too few", x.runnable(0), -2);
        bench.due("file after a wrong one", x.file(0x020AL, 2), 2);
        bench.due("file 8", x.file(0x0102030405060708L, 8), 10);
        bench.due("file low octets", x.file(-2L, 2), 12);
        bench.due("runnable", x.runnable(0), 1);
        int[] want = {2, 10, 1, 2, 3, 4, 5, 6, 7, 8, -1, -2};
        for (int i = 0; i < want.length; i++) {
            bench.due("octet " + i, x.octet(1, i), want[i]);
        }
        bench.due("file is empty after runnable", x.file(2, 1), 1);
    }

    private static void fileFull() {
        RunClasses x = new RunClasses(10);
        for (int n = 8; n <= 112; n += 8) {
            bench.due("file up to " + n, x.file(0, 8), n);
        }
        bench.due("file 115", x.file(0, 3), 115);
        bench.due("file over by 1", x.file(0, 6), -4);
        bench.due("file n first", x.file(0, 9), -2);
        bench.due("file full", x.file(0, 5), 120);
        bench.due("file over", x.file(0, 1), -4);
        RunClasses y = new RunClasses(10);
        int[] big = Bench.run(new int[118]);
        bench.due("file of 120 in one member", Bench.send(y, big), 120);
        bench.due("runnable of 120", y.runnable(0), 1);
        bench.due("octet 119", y.octet(1, 119), 0);
    }

    private static void runnableNumbers() {
        RunClasses x = new RunClasses(10);
        bench.due("first", Bench.add(x, 0, Bench.run()), 1);
        bench.due("second", Bench.add(x, 0, Bench.run()), 2);
        bench.due("edition 2 of 1", Bench.add(x, 1, Bench.run(12)), 2);
        bench.due("edition 3 of 1", Bench.add(x, 1, Bench.run()), 3);
        bench.due("edition 2 of 2", Bench.add(x, 2, Bench.run()), 2);
        Bench.send(x, Bench.run(12));
        bench.due("no such one", x.runnable(3), -1);
        bench.due("no such one", x.runnable(-1), -1);
        bench.due("no such one", x.runnable(21), -1);
        bench.due("no such one", x.runnable(Integer.MIN_VALUE), -1);
        bench.due("no such one", x.runnable(Integer.MAX_VALUE), -1);
        bench.due("the FILE stood through -1", x.runnable(0), 3);
        bench.due("its octet", x.octet(3, 2), 12);
    }

    private static void runnableRight() {
        int[][] wrong = {
            {}, {0}, {1}, {2}, {3}, {0, 0}, {1, 0}, {3, 0}, {255, 0}, {2, 0, 3, 0},
            {2, 1}, {2, 0, 0}, {2, 0, 2, 0}, {1, 0, 1, 0, 2, 0}, {2, 0, 1, 0, 1, 0},
            {2, 2, 0}, {2, 255, 0}, {2, 128, 0, 0}, {2, 0, 0, 1}, {2, 0, 130, 0}, {0, 2, 2, 0},
        };
        int[][] right = {
            {2, 0}, {2, 1, 255}, {2, 0, 0, 0}, {0, 0, 0, 0, 2, 0}, {1, 0, 2, 0}, {2, 0, 1, 0},
            {0, 2, 1, 0, 1, 1, 0, 2, 2, 1, 2, 0, 0},
        };
        RunClasses x = new RunClasses(10);
        for (int[] row : wrong) {
            Bench.send(x, row);
            bench.due("not RIGHT " + java.util.Arrays.toString(row), x.runnable(0), -2);
            bench.due("empty all the same", x.file(9, 1), 1);
            bench.due("not RIGHT {9}", x.runnable(0), -2);
        }
        int number = 0;
        for (int[] row : right) {
            Bench.send(x, row);
            number++;
            bench.due("RIGHT " + java.util.Arrays.toString(row), x.runnable(0), number);
        }
        bench.due("-1 before -2", x.runnable(8), -1);
        bench.due("-2 for an EDITION", x.runnable(1), -2);
        bench.due("refused", x.refused(), 2 * wrong.length + 2);
        // one RUN member of the most octets that its length can tell does not fit a FILE
        Bench.send(x, Bench.joined(new int[] {2, 119}, new int[118]));
        bench.due("one octet too few", x.runnable(0), -2);
    }

    private static void runnableFull() {
        RunClasses x = new RunClasses(10);
        for (int number = 1; number <= 20; number++) {
            bench.due("runnable " + number, Bench.add(x, 0, Bench.run()), number);
        }
        bench.due("a 21st", Bench.add(x, 0, Bench.run(12)), -4);
        bench.due("the FILE stood through -4", x.runnable(20), 2);
        bench.due("its octet", x.octet(20, 2), 12);
        bench.due("-2 before -4", x.runnable(0), -2);
        for (int edition = 2; edition <= 9; edition++) {
            bench.due("edition " + edition, Bench.add(x, 1, Bench.run()), edition);
        }
        bench.due("a 10th edition", Bench.add(x, 1, Bench.run()), -4);
        bench.due("the others have room", x.runnable(2), 2);
        bench.due("refused", x.refused(), 3);
    }

    private static int octetOf(RunClasses x, int runnable, int i) {
        try {
            return x.octet(runnable, i);
        } catch (ArrayIndexOutOfBoundsException e) {
            // the machine's own words begin with "Index": the program is to throw by itself
            return String.valueOf(e.getMessage()).startsWith("Index") ? 2000 : 1000;
        }
    }

    private static void octet() {
        RunClasses x = new RunClasses(10);
        bench.due("octet of none", octetOf(x, 1, 0), 1000);
        Bench.add(x, 0, Bench.run(127, 128, 255, 0));
        Bench.send(x, 7, 7, 7, 7, 7, 7, 7, 7);
        int[] want = {2, 4, 127, -128, -1, 0, 1000, 1000};
        for (int i = 0; i < want.length; i++) {
            bench.due("octet " + i, octetOf(x, 1, i), want[i]);
        }
        bench.due("octet -1", octetOf(x, 1, -1), 1000);
        bench.due("octet max", octetOf(x, 1, Integer.MAX_VALUE), 1000);
        bench.due("octet min", octetOf(x, 1, Integer.MIN_VALUE), 1000);
        bench.due("octet of runnable 0", octetOf(x, 0, 0), 1000);
        bench.due("octet of runnable -1", octetOf(x, -1, 0), 1000);
        bench.due("octet of runnable 2", octetOf(x, 2, 0), 1000);
        bench.due("octet of runnable 21", octetOf(x, 21, 0), 1000);
        x.runnable(0);
        Bench.add(x, 1, Bench.run());
        bench.due("octet of the newest", octetOf(x, 1, 1), 0);
        bench.due("octet of an older one", octetOf(x, 1, 2), 1000);
        bench.due("an exception is no refusal", x.refused(), 1);
    }
}
