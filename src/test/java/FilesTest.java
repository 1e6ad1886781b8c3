import java.util.Arrays;

/** What a FILE is, and promises 1, 2, 3 and 17: a new object, file, runnable, octet. */
public final class FilesTest {
    private static final Bench bench = new Bench();

    public static void main(String[] args) {
        fileHasAtMost120();
        members();
        right();
        runnablesAndEditions();
        newObject();
        file();
        runnable();
        runnableRefused();
        octet();
        bench.end();
    }

    private static void terms(String words) {
        bench.sentence("Terms, A FILE", words);
    }

    private static void fileHasAtMost120() {
        terms("A FILE is a row of octets, at most 120:");
        RunClasses x = new RunClasses(10);
        bench.due("120 in one member", Bench.send(x, Bench.run(new int[118])), 120);
        bench.due("runnable of 120", x.runnable(0), 1);
        bench.due("octet 119", Bench.octetOf(x, 1, 119), 0);
        bench.due("octet 120", Bench.octetOf(x, 1, 120), Bench.THROWN);
        int[] many = new int[120];
        many[0] = 2;
        bench.due("120 in sixty members", Bench.send(x, many), 120);
        bench.due("runnable of sixty members", x.runnable(0), 2);
        Bench.send(x, Bench.run(new int[118]));
        bench.due("a 121st", x.file(0, 1), -4);
        bench.due("is not there", x.runnable(0), 3);
        bench.due("all of a CODE of 118 is gone through", lastOctetOfLongestCode(), 16);
        bench.due("runnable of none", x.runnable(0), -2);
    }

    private static int lastOctetOfLongestCode() {
        int[] code = new int[118];
        code[0] = 13;
        code[1] = 114;
        code[116] = 18;
        code[117] = 99;
        RunClasses x = Bench.ready(10, code);
        int answer = x.run(0, 1);
        bench.dueFault(x, 0, 6, 1, 2, 99);
        return answer;
    }

    private static void members() {
        terms("MEMBERS one behind the other, each a MARK (0 none, 1 START, 2 RUN), "
                + "how many octets of CODE it has, and these.");
        int[] none = Bench.member(0, 18, 1);
        int[] start = Bench.start(0, 3, 4, 0);
        int[] run = Bench.run(0, 4, 12, 4, 1, 4, 2);
        int[][][] rows = {
            {start, run}, {run, start}, {none, start, run}, {start, none, run}, {run, start, none},
            {none, none, run, Bench.member(0), none, start, Bench.member(0)},
        };
        for (int[][] row : rows) {
            RunClasses x = Bench.made(10, row);
            bench.due("power", x.power(0), 1);
            bench.duePorts(x, 0, 3, 0, 0);
            bench.due("run", x.run(0, 1), 1);
            bench.duePorts(x, 0, 3, 4, 4);
        }
        // a CODE may look like members
        RunClasses x = Bench.made(10, Bench.member(0, 2, 0, 1, 0, 9, 9), Bench.run(0, 7, 2, 0));
        x.power(0);
        x.run(0, 1);
        bench.due("what only looks like members is none", x.cell(0, 1, 0), 7);
    }

    private static void right() {
        terms("It is RIGHT if it can be cut up so up to its end,");
        dueNotRight(new int[][] {
            {}, {0}, {1}, {2}, {2, 1}, {2, 0, 0}, {2, 0, 1}, {2, 0, 2}, {2, 2, 0}, {0, 2, 2, 0},
            {2, 0, 0, 1}, {2, 0, 0, 2, 9}, {1, 1, 2, 0}, {2, 127, 0, 0}, {2, 128, 0, 0},
            {2, 254}, {2, 255}, {2, 0, 0, 254}, {0, 254, 2, 0}, {2, 0, 0, 255, 0},
        });
        dueNotRight(new int[][] {
            Bench.joined(new int[] {2, 119}, new int[118]),
            Bench.joined(new int[] {2, 117}, new int[118]),
            Bench.joined(new int[] {2, 128}, new int[118]),
            Bench.joined(new int[] {2, 255}, new int[118]),
        });
        dueRight(new int[][] {
            {2, 0}, {2, 1, 255}, {2, 3, 2, 0, 2}, {2, 0, 0, 1, 9},
            Bench.joined(new int[] {2, 118}, new int[118]),
        });

        terms("no MARK is another one,");
        for (int mark : new int[] {3, 4, 16, 127, 128, 129, 130, 254, 255}) {
            dueNotRight(new int[][] {
                {mark, 0}, {mark, 0, 2, 0}, {2, 0, mark, 0}, {2, 0, mark, 1, 2}, {1, 0, mark, 0, 2, 0},
            });
        }
        dueRight(new int[][] {{0, 0, 1, 0, 2, 0}, {2, 0, 0, 0}, {0, 0, 0, 0, 2, 0}});

        terms("just one member has RUN,");
        dueNotRight(new int[][] {
            {0, 0}, {1, 0}, {0, 0, 1, 0}, {0, 2, 2, 0}, {2, 0, 2, 0}, {2, 0, 1, 0, 2, 0},
            {2, 1, 5, 2, 1, 5}, {2, 0, 2, 0, 2, 0},
        });
        dueRight(new int[][] {{2, 0}, {2, 2, 2, 0}, {1, 2, 2, 0, 2, 0}});

        terms("and one at most START.");
        dueNotRight(new int[][] {
            {1, 0, 1, 0, 2, 0}, {2, 0, 1, 0, 1, 0}, {1, 0, 2, 0, 1, 0}, {1, 0, 1, 0, 1, 0, 2, 0},
            {1, 1, 5, 2, 0, 1, 1, 5},
        });
        dueRight(new int[][] {{2, 0}, {1, 0, 2, 0}, {2, 0, 1, 0}, {1, 2, 1, 0, 2, 2, 1, 0}});
    }

    private static void dueNotRight(int[][] rows) {
        for (int[] row : rows) {
            RunClasses x = new RunClasses(10);
            Bench.send(x, row);
            bench.due("runnable of " + Arrays.toString(row), x.runnable(0), -2);
            Bench.add(x, 0, Bench.run());
            Bench.send(x, row);
            bench.due("an EDITION of " + Arrays.toString(row), x.runnable(1), -2);
        }
    }

    private static void dueRight(int[][] rows) {
        for (int[] row : rows) {
            RunClasses x = new RunClasses(10);
            Bench.send(x, row);
            bench.due("runnable of " + Arrays.toString(row), x.runnable(0), 1);
            Bench.send(x, row);
            bench.due("an EDITION of " + Arrays.toString(row), x.runnable(1), 2);
        }
    }

    private static void runnablesAndEditions() {
        terms("RUNNABLES are numbered from 1 on, 20 at most;");
        RunClasses x = new RunClasses(10);
        for (int number = 1; number <= 20; number++) {
            bench.due("before it is there", x.make(0, number), -1);
            bench.due("runnable " + number, Bench.add(x, 0, Bench.run(0, number, 2, 0)), number);
            bench.due("once it is there", x.make(0, number), 1);
        }
        bench.due("a 21st", Bench.add(x, 0, Bench.run()), -4);
        bench.due("make of a 21st", x.make(0, 21), -1);
        bench.due("make of a 0th", x.make(0, 0), -1);
        x.power(0);
        for (int number = 1; number <= 20; number++) {
            x.run(0, number);
            bench.due("each is its own", x.cell(0, number, 0), number);
        }

        terms("each has EDITIONS from 1 on, 9 at most,");
        RunClasses y = new RunClasses(10);
        Bench.add(y, 0, Bench.run(0, 1, 2, 0));
        Bench.add(y, 0, Bench.run());
        y.make(0, 1);
        y.power(0);
        for (int edition = 2; edition <= 9; edition++) {
            bench.due("edition", Bench.add(y, 1, Bench.run(0, edition, 2, 0)), edition);
            bench.due("it is the newest", y.update(0, 1), 1);
            y.run(0, 1);
            bench.due("which runs", y.cell(0, 1, 0), edition);
        }
        bench.due("a 10th", Bench.add(y, 1, Bench.run(0, 10, 2, 0)), -4);
        bench.due("the 9th is the newest still", y.update(0, 1), -3);
        bench.due("another RUNNABLE's", y.runnable(2), 2);

        terms("each of a FILE that is RIGHT.");
        RunClasses z = new RunClasses(10);
        Bench.add(z, 0, Bench.run(12));
        bench.due("not RIGHT", Bench.add(z, 1, Bench.start()), -2);
        bench.due("not RIGHT", Bench.add(z, 0, Bench.start()), -2);
        bench.dueOctets(z, 1, 2, 1, 12, Bench.THROWN);
        bench.due("it took no number of an EDITION", Bench.add(z, 1, Bench.run()), 2);
        bench.due("nor that of a RUNNABLE", Bench.add(z, 0, Bench.run()), 2);
    }

    private static void newObject() {
        bench.sentence("Promise 1", "A budget of so many STEPS for each CALL");
        bench.due("just enough", Bench.ready(3, 0, 1, 0, 2, 5).run(0, 1), 1);
        bench.due("one too few", Bench.ready(2, 0, 1, 0, 2, 5).run(0, 1), 17);
        RunClasses each = Bench.made(2, Bench.start(0, 1, 4, 1), Bench.run(3, 0, 14, 254));
        Bench.add(each, 0, Bench.start(0, 1, 4, 2), Bench.run(0, 1, 4, 3));
        each.make(0, 2);
        bench.due("each START has one", each.power(0), 1);
        bench.duePorts(each, 0, 0, 1, 1, 0);
        bench.due("all of it is spent", each.run(0, 1), 17);
        bench.due("the next CALL has its own", each.run(0, 2), 1);
        bench.due("so has one beside", each.beside(0, 2), 1);
        bench.due("another object's is its own", Bench.ready(3, 0, 1, 0, 1, 5).run(0, 1), 1);

        bench.sentence("Promise 1", "(below 0 it is 0, above 65536 that);");
        // a loop for ever, of one STEP a round, tells the budget
        int[][] pairs = {{Integer.MIN_VALUE, 0}, {-65536, 0}, {-1, 0}, {0, 0}, {1, 1}, {2, 2},
            {65535, 65535}, {65536, 65536}, {65537, 65536}, {Integer.MAX_VALUE, 65536}};
        for (int[] pair : pairs) {
            RunClasses x = Bench.ready(pair[0], 13, -2);
            bench.due("budget " + pair[0] + ": beside", x.beside(0, 1), 17);
            bench.due("budget " + pair[0] + ": run", x.run(0, 1), 17);
            bench.dueFault(x, 0, 7, 1, pair[1], 0, 1, 1);
            bench.due("budget " + pair[0] + ", no CODE", Bench.ready(pair[0]).run(0, 1), 1);
        }

        bench.sentence("Promise 1", "no RUNNABLES, no CLASSES.");
        RunClasses x = new RunClasses(10);
        for (int number = 1; number <= 20; number++) {
            bench.due("an EDITION", x.runnable(number), -1);
            bench.due("octet", Bench.octetOf(x, number, 0), Bench.THROWN);
            bench.due("make", x.make(0, number), -1);
            bench.due("run", x.run(0, number), -1);
            bench.due("cell", x.cell(0, number, 0), 0);
            bench.due("same", x.same(0, 0, number), false);
        }
        for (int c = 0; c < 8; c++) {
            bench.due("CLASSES", x.reset(c), 0);
        }
        bench.due("the FILE under way is empty", x.file(5, 1), 1);
    }

    private static void file() {
        bench.sentence("Promise 2", "The lowest n octets of v, the highest of these first,");
        for (int n = 1; n <= 8; n++) {
            RunClasses x = new RunClasses(10);
            x.file(n, 2);
            x.file(0xF1E2D3C4B5A69788L, n);
            bench.due("the head is not RIGHT", x.runnable(0), -2);
            x.file(0x7777_7777_7777_0200L + n, 2);
            x.file(0xF1E2D3C4B5A69788L, n);
            bench.due("runnable", x.runnable(0), 1);
            int[] all = {-15, -30, -45, -60, -75, -90, -105, -120};
            int[] want = Bench.joined(new int[] {2, n}, Arrays.copyOfRange(all, 8 - n, 8));
            bench.dueOctets(x, 1, want);
        }
        RunClasses y = new RunClasses(10);
        y.file(0x0208L, 2);
        y.file(Long.MIN_VALUE, 8);
        y.runnable(0);
        bench.dueOctets(y, 1, 2, 8, -128, 0, 0, 0, 0, 0, 0, 0, Bench.THROWN);

        bench.sentence("Promise 2", "come to the end of the FILE under way: how many it has.");
        RunClasses x = new RunClasses(10);
        int all = 0;
        for (int n = 1; n <= 8; n++) {
            all += n;
            bench.due("file of " + n, x.file(0, n), all);
        }
        x.runnable(0);
        bench.due("from 0 on again", x.file(2, 1), 1);
        bench.due("behind it", x.file(0x030102L, 3), 4);
        bench.due("behind these", x.file(3, 1), 5);
        x.runnable(0);
        bench.dueOctets(x, 1, 2, 3, 1, 2, 3, Bench.THROWN);

        bench.sentence("Promise 2", "-2 n is not 1 .. 8,");
        RunClasses z = new RunClasses(10);
        bench.due("n 1", z.file(2, 1), 1);
        for (int n : new int[] {0, -1, 9, 10, 256, Integer.MIN_VALUE, Integer.MAX_VALUE}) {
            bench.due("n " + n, z.file(2, n), -2);
        }
        bench.due("nothing came of these", z.file(8, 1), 2);
        bench.due("n 8", z.file(0, 8), 10);
        bench.due("n 0", z.file(2, 0), -2);
        bench.due("RIGHT all the same", z.runnable(0), 1);

        bench.sentence("Promise 2", "-4 there would be more than 120.");
        for (int n = 1; n <= 8; n++) {
            RunClasses full = new RunClasses(10);
            Bench.send(full, new int[120 - n]);
            for (int more = n + 1; more <= 8; more++) {
                bench.due((120 - n) + " and " + more, full.file(0, more), -4);
            }
            bench.due((120 - n) + " and " + n, full.file(0, n), 120);
            bench.due("120 and " + n, full.file(0, n), -4);
            bench.due("-2 before -4", full.file(0, 9), -2);
            bench.due("-2 before -4", full.file(0, 0), -2);
        }
    }

    private static void runnable() {
        bench.sentence("Promise 3", "The FILE under way becomes a new RUNNABLE's first EDITION "
                + "(runnable 0),");
        RunClasses x = new RunClasses(10);
        bench.due("first", Bench.add(x, 0, Bench.run(1)), 1);
        bench.due("second", Bench.add(x, 0, Bench.run(2)), 2);
        bench.due("an EDITION between", Bench.add(x, 1, Bench.run(3)), 2);
        bench.due("third", Bench.add(x, 0, Bench.run(4)), 3);
        bench.dueOctets(x, 1, 2, 1, 3);
        bench.dueOctets(x, 2, 2, 1, 2);
        bench.dueOctets(x, 3, 2, 1, 4);

        bench.sentence("Promise 3", "or a RUNNABLE's next one: its number, or that of the EDITION.");
        bench.due("second of 2", Bench.add(x, 2, Bench.run(5)), 2);
        bench.due("third of 1", Bench.add(x, 1, Bench.run(6)), 3);
        bench.due("second of 3", Bench.add(x, 3, Bench.run(7)), 2);
        bench.due("third of 3", Bench.add(x, 3, Bench.run(8, 8)), 3);
        bench.dueOctets(x, 1, 2, 1, 6, Bench.THROWN);
        bench.dueOctets(x, 2, 2, 1, 5, Bench.THROWN);
        bench.dueOctets(x, 3, 2, 2, 8, 8, Bench.THROWN);

        bench.sentence("Promise 3", "It is empty then.");
        bench.due("after an EDITION", x.file(2, 1), 1);
        x.file(0, 1);
        x.runnable(0);
        bench.due("after a RUNNABLE", x.runnable(0), -2);
        bench.due("after a RUNNABLE", x.file(2, 1), 1);
        // what became of the FILE before is not changed by the next one
        Bench.send(x, 0, 1, 1, 1, 1, 1, 1);
        bench.dueOctets(x, 3, 2, 2, 8, 8, Bench.THROWN);
    }

    private static void runnableRefused() {
        bench.sentence("Promise 3", "-1 there is no such RUNNABLE,");
        RunClasses x = new RunClasses(10);
        Bench.send(x, Bench.run(12));
        int[] none = {1, -1, 2, 20, 21, 256, Integer.MIN_VALUE, Integer.MAX_VALUE};
        for (int number : none) {
            bench.due("of none: " + number, x.runnable(number), -1);
        }
        bench.due("the FILE stood through -1", x.runnable(0), 1);
        bench.dueOctets(x, 1, 2, 1, 12);
        Bench.send(x, Bench.run());
        bench.due("one behind the last", x.runnable(2), -1);
        bench.due("the last", x.runnable(1), 2);
        bench.due("-1 before -2", x.runnable(2), -1);
        x.file(9, 1);
        bench.due("-1 before -2", x.runnable(-1), -1);
        bench.due("a wrong FILE stands through -1 too", x.file(9, 1), 2);

        bench.sentence("Promise 3", "-2 it is not RIGHT (it is empty all the same),");
        bench.due("not RIGHT", x.runnable(0), -2);
        bench.due("it is empty", x.file(2, 1), 1);
        bench.due("not RIGHT", x.runnable(1), -2);
        bench.due("it is empty", x.file(2, 1), 1);
        x.file(0, 1);
        bench.due("and may become RIGHT", x.runnable(0), 2);
        bench.due("an empty one", x.runnable(0), -2);
        bench.due("an empty one", x.runnable(1), -2);
        Bench.send(x, new int[120]);
        bench.due("a full one", x.runnable(0), -2);
        bench.due("it is empty", x.file(2, 1), 1);

        bench.sentence("Promise 3", "-4 there are 20, or 9.");
        RunClasses y = new RunClasses(10);
        for (int number = 1; number <= 19; number++) {
            Bench.add(y, 0, Bench.run());
        }
        bench.due("a 20th", Bench.add(y, 0, Bench.run()), 20);
        bench.due("a 21st", Bench.add(y, 0, Bench.run(12)), -4);
        bench.due("again", y.runnable(0), -4);
        bench.due("the FILE stood through -4", y.runnable(20), 2);
        bench.dueOctets(y, 20, 2, 1, 12);
        for (int edition = 2; edition <= 8; edition++) {
            Bench.add(y, 1, Bench.run(edition));
        }
        bench.due("a 9th", Bench.add(y, 1, Bench.run(9)), 9);
        bench.due("a 10th", Bench.add(y, 1, Bench.run(10)), -4);
        bench.due("again", y.runnable(1), -4);
        bench.dueOctets(y, 1, 2, 1, 9);
        bench.due("the FILE stood through -4", y.runnable(2), 2);
        bench.dueOctets(y, 2, 2, 1, 10);
        bench.due("-2 before -4", y.runnable(0), -2);
        bench.due("-2 before -4", y.runnable(1), -2);
        y.file(9, 1);
        bench.due("-2 before -4", y.runnable(0), -2);
        bench.due("it is empty all the same", y.file(9, 1), 1);
        bench.due("-1 before -4", y.runnable(21), -1);
    }

    private static void octet() {
        bench.sentence("Promise 17", "Octet i of the newest EDITION's FILE, with its sign.");
        RunClasses x = new RunClasses(10);
        Bench.add(x, 0, Bench.run(127, 128, 255, 0), Bench.start(1, 254));
        bench.dueOctets(x, 1, 2, 4, 127, -128, -1, 0, 1, 2, 1, -2);
        Bench.add(x, 0, Bench.member(0), Bench.run(5));
        bench.dueOctets(x, 2, 0, 0, 2, 1, 5);
        x.make(0, 1);
        Bench.add(x, 1, Bench.run(200));
        bench.dueOctets(x, 1, 2, 1, -56);
        Bench.send(x, 7, 7, 7);
        bench.dueOctets(x, 1, 2, 1, -56);

        bench.sentence("Promise 17",
                "ArrayIndexOutOfBoundsException: there is no such RUNNABLE, or octet.");
        int before = x.refused();
        for (int no : new int[] {0, -1, 3, 20, 21, Integer.MIN_VALUE, Integer.MAX_VALUE}) {
            bench.due("runnable " + no, Bench.octetOf(x, no, 0), Bench.THROWN);
            bench.due("runnable " + no, Bench.octetOf(x, no, -1), Bench.THROWN);
        }
        for (int no : new int[] {3, -1, 4, 9, 119, 120, Integer.MIN_VALUE, Integer.MAX_VALUE}) {
            bench.due("octet " + no, Bench.octetOf(x, 1, no), Bench.THROWN);
        }
        bench.due("octet 4 of another", Bench.octetOf(x, 2, 4), 5);
        bench.due("octet 5 of another", Bench.octetOf(x, 2, 5), Bench.THROWN);
        bench.due("an exception is no refusal", x.refused(), before);
    }
}
