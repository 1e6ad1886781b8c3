import java.util.Arrays;

/**
 * How a CALL goes through a CODE, what each instruction does, each way in which it FAILS, and
 * promise 18: divide.
 */
public final class InstructionsTest {
    private static final Bench bench = new Bench();
    private static final int BUDGET = 200;
    private static final long LEAST = Long.MIN_VALUE;
    private static final long MOST = Long.MAX_VALUE;
    /** The instructions that have an octet behind them. */
    private static final int[] WITH_OCTET = {0, 1, 2, 3, 4, 13, 14, 16, 18};

    public static void main(String[] args) {
        calls();
        layAndPlaces();
        reckoning();
        goingOn();
        cellTaken();
        handlesAndGivingUp();
        done();
        firstOfTwo();
        noSuchOctet();
        noSuchOctetToGoOnAt();
        noSuchPlace();
        pile();
        byZero();
        noGoodHandle();
        givesUp();
        budget();
        whatStays();
        fault();
        reaction();
        divide();
        bench.end();
    }

    private static void calls(String words) {
        bench.sentence("Terms, A CALL goes", words);
    }

    private static void instructions(String words) {
        bench.sentence("Terms, 0 b:", words);
    }

    /** The CODE ends well, as RUN, beside and as START; cell 0 is what is due. */
    private static void good(long want, int... code) {
        RunClasses x = Bench.ready(BUDGET, code);
        String what = Arrays.toString(code);
        bench.due("beside of " + what, x.beside(0, 1), 1);
        bench.due("run of " + what, x.run(0, 1), 1);
        bench.due("cell 0 of " + what, x.cell(0, 1, 0), want);
        bench.dueFault(x, 0, 0, 0, 0, 0, 0, 1);
        RunClasses y = Bench.made(BUDGET, Bench.run(), Bench.start(code));
        bench.due("power of " + what, y.power(0), 1);
        bench.due("cell 0 after power of " + what, y.cell(0, 1, 0), want);
        bench.dueFault(y, 0, 0, 0, 0, 0, 0, 1);
    }

    /** The CODE FAILS with this kind, after so many STEPS, as RUN, beside and as START. */
    private static void bad(int kind, int steps, int given, int... code) {
        RunClasses x = Bench.ready(BUDGET, code);
        String what = Arrays.toString(code);
        bench.due("beside of " + what, x.beside(0, 1), 10 + kind);
        bench.due("run of " + what, x.run(0, 1), 10 + kind);
        bench.dueFault(x, 0, kind, 1, steps, given, 1, 1);
        RunClasses y = Bench.made(BUDGET, Bench.start(code), Bench.run());
        bench.due("power of " + what, y.power(0), 10 + kind);
        bench.dueFault(y, 0, kind, 1, steps, given, 1, 0);
    }

    /** So many numbers on the PILE, and a CODE behind that. */
    private static int[] behindPile(int numbers, int... code) {
        int[] all = new int[2 * numbers + code.length];
        for (int i = 0; i < numbers; i++) {
            all[2 * i + 1] = 1;
        }
        System.arraycopy(code, 0, all, 2 * numbers, code.length);
        return all;
    }

    /** What an instruction makes of ports 0 (x) and 1 (y). */
    private static void ofPorts(int instruction, long x, long y, long want) {
        RunClasses r = Bench.ready(BUDGET, 3, 0, 3, 1, instruction, 2, 0);
        r.set(0, 0, x);
        r.set(0, 1, y);
        bench.due("run of " + instruction, r.run(0, 1), 1);
        bench.due(x + ", " + y + " by " + instruction, r.cell(0, 1, 0), want);
    }

    private static void calls() {
        calls("A CALL goes through a member's CODE, from its first octet on,");
        good(5, 0, 5, 2, 0);
        bad(6, 1, 1, 18, 1, 18, 2);
        RunClasses x = Bench.made(BUDGET, Bench.member(0, 18, 9), Bench.run(13, 252, 0, 7, 2, 0));
        x.power(0);
        bench.due("nothing is before the CODE", x.run(0, 1), 11);
        RunClasses y = Bench.made(BUDGET, Bench.run(0, 7, 2, 0), Bench.start(0, 6, 2, 1));
        y.power(0);
        bench.dueCells(y, 0, 1, 0, 6);
        y.run(0, 1);
        y.run(0, 1);
        bench.dueCells(y, 0, 1, 7, 6);

        calls("with an empty PILE (16 numbers at most);");
        RunClasses z = Bench.made(BUDGET, Bench.start(behindPile(16)),
                Bench.run(3, 0, 14, 32, 0, 1, 0, 1, 0, 1, 0, 1, 0, 1, 0, 1, 0, 1, 0, 1,
                        0, 1, 0, 1, 0, 1, 0, 1, 0, 1, 0, 1, 0, 1, 0, 1, 2, 0));
        bench.due("16 numbers at START", z.power(0), 1);
        bench.due("none of these is there at RUN", z.run(0, 1), 13);
        bench.dueFault(z, 0, 3, 1, 3, 0);
        z.set(0, 0, 1);
        bench.due("16 numbers", z.beside(0, 1), 1);
        bench.due("16 numbers again", z.run(0, 1), 1);
        bench.due("16 numbers again", z.run(0, 1), 1);
        z.set(0, 0, 0);
        bench.due("none of these is there", z.beside(0, 1), 13);
        bench.due("none of these is there", z.run(0, 1), 13);
        good(0, behindPile(16));
        bad(3, 17, 0, behindPile(17));

        calls("numbers have 64 bits, and wrap.");
        ofPorts(5, MOST, 1, LEAST);
        ofPorts(5, LEAST, -1, MOST);
        ofPorts(5, LEAST, LEAST, 0);
        ofPorts(6, LEAST, 1, MOST);
        ofPorts(6, 0, LEAST, LEAST);
        ofPorts(6, MOST, LEAST, -1);
        ofPorts(7, MOST, 2, -2);
        ofPorts(7, LEAST, -1, LEAST);
        ofPorts(7, 1L << 32, 1L << 32, 0);
        ofPorts(7, 1L << 32, 1L << 31, LEAST);
        ofPorts(8, LEAST, -1, LEAST);
        ofPorts(9, LEAST, -1, 0);
        ofPorts(5, 1L << 40, 3, (1L << 40) + 3);

        calls("The octet behind an instruction that has one is k, or b with its sign "
                + "(0 .. 127, -128 .. -1).");
        good(0, 0, 0, 2, 0);
        good(127, 0, 127, 2, 0);
        good(-128, 0, 128, 2, 0);
        good(-1, 0, 255, 2, 0);
        bad(6, 1, 127, 18, 127);
        bad(6, 1, 128, 18, 128);
        bad(6, 1, 255, 18, 255);
        bad(2, 1, 0, 1, 255);
        bad(1, 1, 0, 13, 127);
        bad(1, 2, 0, 13, 255);
        bad(7, BUDGET, 0, 13, 254);

        calls("Each instruction is a STEP, also the one with which the CALL FAILS:");
        // one STEP each, by giving up behind it: 18 is the last STEP
        int[][] rows = {{0, 1}, {1, 1}, {3, 1}, {13, 0}, {16, 0}};
        for (int[] row : rows) {
            bad(6, 2, 4, Bench.joined(row, new int[] {18, 4}));
        }
        int[][] takingOne = {{2, 0}, {4, 0}, {12}, {14, 0}, {15}};
        for (int[] row : takingOne) {
            bad(6, 3, 4, Bench.joined(behindPile(1), row, new int[] {18, 4}));
        }
        for (int number = 5; number <= 11; number++) {
            bad(6, 4, 4, Bench.joined(behindPile(2), new int[] {number, 18, 4}));
        }
        bad(6, 3, 4, 16, 0, 17, 18, 4);
        bad(6, 3, 4, 0, 0, 14, 0, 18, 4);
        bad(1, 1, 0, 99);
        bad(2, 1, 0, 1, 8);
        bad(3, 1, 0, 5);
        bad(4, 3, 0, 0, 1, 0, 0, 8);
        bad(5, 1, 0, 17);
    }

    private static void layAndPlaces() {
        instructions("0 b: b is laid on the PILE.");
        good(100, 0, 100, 2, 0);
        good(-100, 0, 156, 2, 0);
        good(4, 0, 3, 0, 4, 2, 0);

        instructions("1 k: cell k is laid;");
        for (int k = 1; k < 8; k++) {
            good(9, 0, 9, 2, k, 1, k, 2, 0);
            good(0, 0, 9, 2, k, 1, 8 - k == k ? 1 : 8 - k, 2, 0);
        }
        good(6, 0, 3, 2, 0, 1, 0, 1, 0, 5, 2, 0);

        instructions("2 k: what is taken becomes cell k.");
        for (int k = 0; k < 8; k++) {
            RunClasses x = Bench.ready(BUDGET, 0, 5, 0, 6, 2, k);
            x.run(0, 1);
            long[] want = new long[8];
            want[k] = 6;
            bench.dueCells(x, 0, 1, want);
            bench.duePorts(x, 0, 0, 0, 0, 0, 0, 0, 0, 0);
        }
        good(5, 0, 5, 0, 6, 2, 0, 2, 0);

        instructions("3 k: port k is laid;");
        for (int k = 0; k < 8; k++) {
            RunClasses x = Bench.ready(BUDGET, 3, k, 2, 0, 3, k, 2, 1);
            for (int p = 0; p < 8; p++) {
                x.set(0, p, LEAST + p);
                x.set(1, p, 77);
            }
            x.run(0, 1);
            bench.dueCells(x, 0, 1, LEAST + k, LEAST + k, 0, 0, 0, 0, 0, 0);
            bench.due("it stays as it is", x.port(0, k), LEAST + k);
        }

        instructions("4 k: what is taken becomes port k.");
        for (int k = 0; k < 8; k++) {
            RunClasses x = Bench.ready(BUDGET, 0, 5, 0, 6, 4, k);
            x.run(0, 1);
            long[] want = new long[8];
            want[k] = 6;
            bench.duePorts(x, 0, want);
            bench.duePorts(x, 1, 0, 0, 0, 0, 0, 0, 0, 0);
            bench.dueCells(x, 0, 1, 0, 0, 0, 0, 0, 0, 0, 0);
        }
        good(5, 0, 5, 0, 6, 4, 0, 2, 0);
    }

    private static void reckoning() {
        instructions("With y taken first, then x, is laid:");
        good(4, 0, 7, 0, 3, 6, 2, 0);
        good(-4, 0, 3, 0, 7, 6, 2, 0);
        good(2, 0, 7, 0, 3, 8, 2, 0);
        good(8, 0, 8, 0, 7, 0, 3, 6, 2, 1, 2, 0);

        instructions("5: x + y;");
        ofPorts(5, 7, 3, 10);
        ofPorts(5, -7, 3, -4);

        instructions("6: x - y;");
        ofPorts(6, 7, 3, 4);
        ofPorts(6, 3, 7, -4);

        instructions("7: x times y;");
        ofPorts(7, 7, 3, 21);
        ofPorts(7, -7, 3, -21);
        ofPorts(7, 7, 0, 0);

        instructions("8: x / y, cut off towards 0;");
        ofPorts(8, 7, 3, 2);
        ofPorts(8, -7, 3, -2);
        ofPorts(8, 7, -3, -2);
        ofPorts(8, -7, -3, 2);
        ofPorts(8, -2, 3, 0);
        ofPorts(8, 0, -3, 0);
        ofPorts(8, MOST, LEAST, 0);
        ofPorts(8, LEAST, MOST, -1);
        ofPorts(8, 5, 1L << 32, 0);

        instructions("9: what that leaves (with the sign of x);");
        ofPorts(9, 7, 3, 1);
        ofPorts(9, -7, 3, -1);
        ofPorts(9, 7, -3, 1);
        ofPorts(9, -7, -3, -1);
        ofPorts(9, 0, -3, 0);
        ofPorts(9, 6, 3, 0);
        ofPorts(9, LEAST, MOST, -1);
        ofPorts(9, MOST, LEAST, MOST);
        ofPorts(9, 5, 1L << 32, 5);

        instructions("10: 1 if x is less than y, otherwise 0;");
        ofPorts(10, 7, 3, 0);
        ofPorts(10, 3, 7, 1);
        ofPorts(10, 3, 3, 0);
        ofPorts(10, -1, 0, 1);
        ofPorts(10, LEAST, MOST, 1);
        ofPorts(10, MOST, LEAST, 0);
        ofPorts(10, LEAST, LEAST, 0);

        instructions("11: 1 if they are the same, otherwise 0.");
        ofPorts(11, 3, 3, 1);
        ofPorts(11, 3, 4, 0);
        ofPorts(11, 4, 3, 0);
        ofPorts(11, 0, 0, 1);
        ofPorts(11, LEAST, LEAST, 1);
        ofPorts(11, 1L << 32, 0, 0);
        ofPorts(11, 5_000_000_000L, 5_000_000_000L, 1);

        instructions("12: the uppermost number is laid once more.");
        good(6, 0, 3, 12, 5, 2, 0);
        good(4, 0, 9, 0, 2, 12, 5, 2, 0);
        good(9, 0, 9, 0, 2, 12, 2, 1, 2, 1, 2, 0);
    }

    private static void goingOn() {
        instructions("13 b: it goes on b octets behind the next instruction "
                + "(before it, if b is below 0);");
        good(1, 0, 1, 2, 0, 13, 0);
        good(1, 0, 1, 13, 0, 2, 0);
        good(1, 0, 1, 2, 0, 13, 2, 2, 0);
        good(1, 13, 4, 2, 0, 13, 4, 0, 1, 13, 248);
        good(2, 13, 4, 0, 2, 13, 2, 13, 250, 2, 0);
        // gone on at an octet that belongs to an instruction: it is read as one
        good(12, 0, 0, 13, 1, 13, 0, 12, 2, 0);
        good(3, 13, 1, 0, 0, 3, 2, 0);
        // a number is not taken
        good(8, 0, 8, 13, 0, 2, 0);

        instructions("14 b: likewise, if the number that is taken is 0.");
        good(5, 0, 0, 14, 2, 13, 4, 0, 5, 2, 0);
        good(0, 0, 1, 14, 2, 13, 4, 0, 5, 2, 0);
        good(0, 0, 255, 14, 2, 13, 4, 0, 5, 2, 0);
        good(5, 0, 5, 2, 0, 0, 0, 14, 0);
        good(7, 0, 7, 0, 0, 14, 0, 2, 0);
        good(7, 0, 7, 0, 1, 14, 0, 2, 0);
        good(7, 13, 6, 0, 7, 2, 0, 13, 4, 0, 0, 14, 246);
        for (long v : new long[] {1L << 32, LEAST, -1, 1}) {
            RunClasses x = Bench.ready(BUDGET, 3, 0, 14, 4, 0, 3, 2, 0);
            x.set(0, 0, v);
            x.run(0, 1);
            bench.due(v + " is not 0", x.cell(0, 1, 0), 3);
        }
    }

    private static void cellTaken() {
        instructions("15: a number i is taken, cell i is laid.");
        for (int i = 0; i < 8; i++) {
            good(9, 0, 9, 2, i, 0, i, 15, 2, 0);
        }
        good(4, 0, 4, 0, 7, 15, 2, 1, 2, 0);
        good(0, behindPile(16, 15, 2, 0));
    }

    private static void handlesAndGivingUp() {
        instructions("16 k: the CLASS keeps a HANDLE to port k, in place of the one before.");
        for (int k = 0; k < 8; k++) {
            RunClasses x = Bench.ready(BUDGET, 16, 7 - k, 16, k, 17, 2, 0);
            for (int p = 0; p < 8; p++) {
                x.set(0, p, 10 + p);
            }
            bench.due("before", Bench.handleOf(x, 0, 1), -3);
            bench.due("run", x.run(0, 1), 1);
            bench.due("port " + k, x.cell(0, 1, 0), 10 + k);
            bench.due("kept", Bench.handleOf(x, 0, 1), Bench.THROWN);
        }

        instructions("17: what the port of the HANDLE has is laid.");
        good(5, 0, 5, 4, 3, 16, 3, 17, 2, 0);
        good(6, 0, 5, 4, 3, 16, 3, 0, 6, 4, 3, 17, 2, 0);
        good(10, 0, 5, 4, 3, 16, 3, 17, 17, 5, 2, 0);
        good(5, 0, 5, 4, 3, 16, 3, 17, 2, 0, 17, 2, 0);

        instructions("18 k: it gives up, with k.");
        bad(6, 1, 7, 18, 7);
        bad(6, 2, 9, 0, 1, 18, 9);
    }

    private static void done() {
        instructions("The CALL is done when it would go on right behind the last octet of the CODE.");
        good(0);
        good(1, 0, 1, 2, 0);
        good(1, 0, 1, 2, 0, 13, 0);
        good(1, 0, 1, 2, 0, 13, 1, 99);
        good(1, 0, 1, 2, 0, 0, 0, 14, 2, 18, 1);
        good(1, 0, 1, 2, 0, 0, 1, 14, 128);
        // with a spent budget too
        bench.due("no CODE and no budget", Bench.ready(0).run(0, 1), 1);
        bench.due("the budget just spent", Bench.ready(2, 0, 1, 2, 0).run(0, 1), 1);
        bench.due("gone on there by the last STEP", Bench.ready(1, 13, 1, 99).run(0, 1), 1);
        // what is behind the CODE in the FILE is not of it
        RunClasses x = Bench.made(BUDGET, Bench.run(0, 1), Bench.start(2, 0));
        bench.due("START's PILE is empty", x.power(0), 13);
        RunClasses y = Bench.made(BUDGET, Bench.run(13, 2), Bench.member(0, 12, 12, 12));
        y.power(0);
        bench.due("the FILE goes on, the CODE does not", y.run(0, 1), 11);
    }

    private static void firstOfTwo() {
        instructions("It FAILS, by the first of these at an instruction:");
        // 1 before 3
        bad(1, 17, 0, behindPile(16, 0));
        bad(1, 17, 0, behindPile(16, 1));
        bad(1, 17, 0, behindPile(16, 3));
        bad(1, 1, 0, 2);
        bad(1, 1, 0, 4);
        bad(1, 1, 0, 14);
        // 2 before 3
        bad(2, 1, 0, 2, 8);
        bad(2, 1, 0, 4, 8);
        bad(2, 17, 0, behindPile(16, 1, 8));
        bad(2, 17, 0, behindPile(16, 3, 8));
        // 3 before 4
        bad(3, 2, 0, 0, 0, 8);
        bad(3, 2, 0, 0, 0, 9);
        // 3 before 5
        bad(3, 17, 0, behindPile(16, 17));
        // nothing can be taken, so it is not to be gone on anywhere
        bad(3, 1, 0, 14, 100);
        bad(3, 1, 0, 14, 128);
    }

    private static void noSuchOctet() {
        instructions("1 it begins with no such octet,");
        for (int number = 19; number < 256; number++) {
            bad(1, 1, 0, number);
            bad(1, 1, 0, number, 0);
        }
        bad(1, 2, 0, 0, 1, 19);
        bad(1, 2, 0, 13, 1, 0, 200);
        bad(1, 17, 0, behindPile(16, 19));

        instructions("or lacks its own k or b,");
        for (int number : WITH_OCTET) {
            bad(1, 1, 0, number);
            bad(1, 2, 0, 13, 0, number);
            bad(1, 2, 0, 0, 0, number);
        }
        bad(1, 3, 0, 0, 1, 12, 0);
        // the octet behind the CODE, in the FILE, is not its own
        RunClasses x = Bench.made(BUDGET, Bench.run(0), Bench.start());
        x.power(0);
        bench.due("0 is the last octet of the CODE", x.run(0, 1), 11);
    }

    private static void noSuchOctetToGoOnAt() {
        instructions("or it is to be gone on at an octet that there is not (before the first one, "
                + "or further behind than right behind the last);");
        bad(7, BUDGET, 0, 13, 254);
        bad(1, 1, 0, 13, 253);
        bad(1, 1, 0, 13, 128);
        bad(7, BUDGET, 0, 13, 0, 13, 252);
        bad(1, 2, 0, 13, 0, 13, 251);
        good(0, 13, 0);
        bad(1, 1, 0, 13, 1);
        good(0, 13, 1, 99);
        bad(1, 1, 0, 13, 2, 99);
        bad(1, 1, 0, 13, 127);
        bad(7, BUDGET, 0, 0, 0, 14, 252);
        bad(1, 2, 0, 0, 0, 14, 251);
        bad(1, 2, 0, 0, 0, 14, 128);
        good(0, 0, 0, 14, 0);
        bad(1, 2, 0, 0, 0, 14, 1);
        bad(1, 2, 0, 0, 0, 14, 127);
        // where the number is not 0, it is not to be gone on there
        good(0, 0, 1, 14, 251);
        good(0, 0, 1, 14, 1);
        good(0, 0, 1, 14, 127);
        good(0, 0, 1, 14, 128);
    }

    private static void noSuchPlace() {
        instructions("2 a cell or port that there is not (before anything is taken; "
                + "15: once i was taken);");
        for (int number : new int[] {1, 2, 3, 4, 16}) {
            for (int k : new int[] {8, 9, 127, 128, 255}) {
                bad(2, 1, 0, number, k);
                bad(2, 2, 0, 0, 1, number, k);
            }
        }
        good(0, 0, 0, 12, 12, 2, 7, 4, 7, 1, 7, 3, 7, 16, 7, 2, 0);
        bad(2, 2, 0, 0, 8, 15);
        bad(2, 2, 0, 0, 255, 15);
        bad(3, 1, 0, 15);
        RunClasses x = Bench.ready(BUDGET, 3, 0, 15, 2, 0);
        long[] none = {8, 9, -1, 1L << 32, (1L << 32) + 1, 256, -256, LEAST, MOST};
        for (long i : none) {
            x.set(0, 0, i);
            bench.due("15 of " + i, x.run(0, 1), 12);
            bench.dueFault(x, 0, 2, 1, 2, 0);
        }
        RunClasses y = Bench.ready(BUDGET, 16, 3, 16, 8);
        bench.due("a HANDLE to no port", y.run(0, 1), 12);
        bench.due("the one before is kept", Bench.handleOf(y, 0, 1), Bench.THROWN);
        RunClasses z = Bench.ready(BUDGET, 16, 8);
        z.run(0, 1);
        bench.due("none is kept", Bench.handleOf(z, 0, 1), -3);
    }

    private static void pile() {
        instructions("3 the PILE has too few, or would have 17;");
        for (int[] row : new int[][] {{2, 0}, {4, 0}, {12}, {14, 0}, {15}}) {
            bad(3, 1, 0, row);
            good(0, Bench.joined(new int[] {0, 0}, row));
        }
        for (int number = 5; number <= 11; number++) {
            bad(3, 1, 0, number);
            bad(3, 2, 0, 0, 1, number);
            good(0, 0, 1, 0, 1, number);
            bad(3, 4, 0, 0, 1, 0, 1, number, number);
            good(0, behindPile(16, number));
        }
        for (int[] row : new int[][] {{0, 1}, {1, 0}, {3, 0}, {12}}) {
            bad(3, 17, 0, behindPile(16, row));
            good(0, behindPile(15, row));
            bad(3, 17, 0, Bench.joined(behindPile(15, row), row));
        }
        bad(3, 18, 0, behindPile(16, 16, 0, 17));
        good(0, behindPile(15, 16, 0, 17));
        // what takes as many as it lays, or more, has room
        good(2, behindPile(16, 5, 2, 0));
        good(0, behindPile(16, 15));
        good(0, behindPile(16, 14, 0));
        good(0, behindPile(16, 13, 0));
        good(0, behindPile(16, 16, 0));
        good(1, behindPile(16, 2, 0));
        good(0, behindPile(16, 4, 0));
        bad(6, 17, 1, behindPile(16, 18, 1));
    }

    private static void byZero() {
        instructions("4 by 0;");
        bad(4, 3, 0, 0, 1, 0, 0, 8);
        bad(4, 3, 0, 0, 1, 0, 0, 9);
        bad(4, 3, 0, 0, 0, 0, 0, 8);
        bad(4, 3, 0, 0, 0, 0, 0, 9);
        bad(4, 17, 0, Bench.joined(behindPile(15), new int[] {0, 0, 8}));
        good(0, 0, 0, 0, 1, 8, 2, 0);
        good(1, 0, 1, 0, 0, 7, 0, 1, 5, 2, 0);
        ofPorts(8, 0, 1L << 32, 0);
    }

    private static void noGoodHandle() {
        instructions("5 there is no HANDLE, or it was kept in an earlier CALL;");
        bad(5, 1, 0, 17);
        bad(5, 2, 0, 0, 1, 17);
        RunClasses x = new RunClasses(BUDGET);
        // START keeps one; RUN keeps one only while port 0 is not 0, and goes by it
        Bench.add(x, 0, Bench.start(16, 1, 17, 2, 6), Bench.run(3, 0, 14, 2, 16, 2, 17, 2, 7));
        Bench.add(x, 0, Bench.run(17));
        x.make(0, 1);
        x.make(0, 2);
        x.set(0, 0, 1);
        x.set(0, 1, 11);
        x.set(0, 2, 22);
        bench.due("power", x.power(0), 1);
        bench.due("START went by its own", x.cell(0, 1, 6), 11);
        x.set(0, 0, 0);
        bench.due("beside: that of START is good no more", x.beside(0, 1), 15);
        bench.due("that of START is good no more", x.run(0, 1), 15);
        bench.dueFault(x, 0, 5, 1, 3, 0, 1, 1);
        x.set(0, 0, 1);
        bench.due("beside: its own is good", x.beside(0, 1), 1);
        x.set(0, 0, 0);
        bench.due("one kept beside is none", x.run(0, 1), 15);
        x.set(0, 0, 1);
        bench.due("its own is good", x.run(0, 1), 1);
        bench.due("another CLASS's is not its own", x.run(0, 2), 15);
        bench.due("its own is good", x.run(0, 1), 1);
        bench.due("port 2", x.cell(0, 1, 7), 22);
        x.set(0, 0, 0);
        bench.due("that of the CALL before is good no more", x.run(0, 1), 15);
        bench.due("it is kept all the same", Bench.handleOf(x, 0, 1), Bench.THROWN);
        // of START members one behind the other, each goes by its own alone
        RunClasses y = new RunClasses(BUDGET);
        Bench.add(y, 0, Bench.start(16, 1), Bench.run());
        Bench.add(y, 0, Bench.start(17), Bench.run());
        y.make(0, 1);
        y.make(0, 2);
        bench.due("START of another", y.power(0), 15);
        bench.dueFault(y, 0, 5, 2, 1, 0, 1, 0);
    }

    private static void givesUp() {
        instructions("6 it gives up.");
        bad(6, 1, 0, 18, 0);
        bad(6, 2, 200, 0, 0, 18, 200);
        good(0, 13, 2, 18, 1);
    }

    private static void budget() {
        instructions("And 7: it would make more STEPS than the budget (the number told to the "
                + "constructor; that STEP is not made, and not counted).");
        RunClasses x = Bench.ready(4, 0, 1, 2, 0, 0, 2, 2, 1, 0, 3, 2, 2);
        bench.due("beside", x.beside(0, 1), 17);
        bench.due("run", x.run(0, 1), 17);
        bench.dueFault(x, 0, 7, 1, 4, 0, 1, 1);
        bench.dueCells(x, 0, 1, 1, 2, 0);
        RunClasses y = Bench.ready(1, 0, 1, 4, 0);
        bench.due("the STEP that takes is not made", y.run(0, 1), 17);
        bench.due("port 0", y.port(0, 0), 0);
        RunClasses z = Bench.ready(1, 13, 0, 16, 0);
        bench.due("the STEP that keeps is not made", z.run(0, 1), 17);
        bench.due("no HANDLE", Bench.handleOf(z, 0, 1), -3);
        // what FAILS with its last STEP does so by that one
        bench.due("gives up within the budget", Bench.ready(1, 18, 3).run(0, 1), 16);
        bench.due("goes outside within the budget", Bench.ready(1, 13, 9).run(0, 1), 11);
        // a STEP that is not made can not FAIL in another way
        int[][] next = {{19}, {1, 8}, {12}, {17}, {18, 5}, {0}, {13, 9}};
        for (int[] row : next) {
            int[] code = Bench.joined(new int[] {13, 0}, row);
            RunClasses spent = Bench.ready(1, code);
            bench.due("budget spent before " + Arrays.toString(row), spent.run(0, 1), 17);
            bench.dueFault(spent, 0, 7, 1, 1, 0, 1, 1);
            RunClasses none = Bench.made(0, Bench.start(row), Bench.run(row));
            bench.due("power without budget", none.power(0), 17);
            bench.dueFault(none, 0, 7, 1, 0, 0, 1, 0);
        }
        bench.due("by 0 is not reached", Bench.ready(2, 0, 1, 0, 0, 8).run(0, 1), 17);
    }

    private static void whatStays() {
        instructions("What CELLS, PORTS and HANDLE became up to there stays.");
        // each kind of failure behind: cell 0 and port 5 and a HANDLE became something
        int[][] failures = {{19}, {1, 8}, {5}, {0, 1, 0, 0, 8}, {18, 4}, {13, 254}};
        int[] kinds = {1, 2, 3, 4, 6, 7};
        for (int i = 0; i < kinds.length; i++) {
            int[] code = Bench.joined(new int[] {0, 1, 2, 0, 0, 2, 4, 5, 16, 3}, failures[i],
                    new int[] {0, 9, 2, 7, 0, 9, 4, 7});
            RunClasses x = Bench.ready(BUDGET, code);
            bench.due("run", x.run(0, 1), 10 + kinds[i]);
            bench.dueCells(x, 0, 1, 1, 0, 0, 0, 0, 0, 0, 0);
            bench.duePorts(x, 0, 0, 0, 0, 0, 0, 2, 0, 0);
            bench.due("HANDLE", Bench.handleOf(x, 0, 1), Bench.THROWN);
            RunClasses y = Bench.made(BUDGET, Bench.start(code), Bench.run());
            bench.due("power", y.power(0), 10 + kinds[i]);
            bench.dueCells(y, 0, 1, 1, 0, 0, 0, 0, 0, 0, 0);
            bench.duePorts(y, 0, 0, 0, 0, 0, 0, 2, 0, 0);
            bench.due("HANDLE", Bench.handleOf(y, 0, 1), Bench.THROWN);
        }
        RunClasses z = Bench.ready(BUDGET, 0, 1, 2, 0, 0, 2, 4, 5, 17);
        bench.due("run", z.run(0, 1), 15);
        bench.due("cell", z.cell(0, 1, 0), 1);
        bench.due("port", z.port(0, 5), 2);
        bench.due("HANDLE", Bench.handleOf(z, 0, 1), -3);
        // and the next CALL goes on with it
        RunClasses next = Bench.ready(BUDGET, 1, 0, 0, 1, 5, 2, 0, 18, 1);
        next.run(0, 1);
        next.run(0, 1);
        bench.due("counted up twice", next.cell(0, 1, 0), 2);
    }

    private static void fault() {
        instructions("The CONTROLLER's FAULT is then the kind (1 .. 7), the RUNNABLE, "
                + "how many STEPS were made, and k (0 but for 6);");
        int[][] codes = {{99}, {3, 8}, {12}, {0, 1, 0, 0, 9}, {17}, {18, 77}, {13, 254}};
        int[] steps = {1, 1, 1, 3, 1, 1, 9};
        RunClasses x = new RunClasses(9);
        for (int i = 0; i < 7; i++) {
            Bench.add(x, 0, Bench.run(codes[i]));
            x.make(5, i + 1);
        }
        x.power(5);
        bench.dueFault(x, 5, 0, 0, 0, 0, 0, 1);
        for (int kind = 7; kind >= 1; kind--) {
            bench.due("run", x.run(5, kind), 10 + kind);
            bench.dueFault(x, 5, kind, kind, steps[kind - 1], kind == 6 ? 77 : 0, 8 - kind, 1);
        }
        bench.dueFault(x, 4, 0, 0, 0, 0, 0, 0);
        // as FAULT of a START too
        for (int kind = 1; kind <= 7; kind++) {
            Bench.add(x, kind, Bench.start(codes[kind - 1]), Bench.run());
            x.make(6, kind);
            bench.due("power", x.power(6), 10 + kind);
            bench.dueFault(x, 6, kind, kind, steps[kind - 1], kind == 6 ? 77 : 0, kind, 0);
            Bench.add(x, kind, Bench.run());
            x.update(6, kind);
        }
    }

    private static void reaction() {
        instructions("its REACTION follows (at START: see power()).");
        int[][] codes = {{99}, {3, 8}, {12}, {0, 1, 0, 0, 9}, {17}, {18, 77}, {13, 254}};
        for (int kind = 1; kind <= 7; kind++) {
            for (int reaction = 0; reaction <= 2; reaction++) {
                RunClasses x = Bench.ready(BUDGET, codes[kind - 1]);
                x.reaction(0, reaction);
                bench.due("run", x.run(0, 1), 10 + kind);
                bench.due("UP", x.fault(0, 5), reaction == 2 ? 0 : 1);
                bench.due("run again", x.run(0, 1), reaction == 0 ? 10 + kind : -3);
                RunClasses y = Bench.made(BUDGET, Bench.start(codes[kind - 1]), Bench.run());
                y.reaction(0, reaction);
                bench.due("power", y.power(0), 10 + kind);
                bench.due("power again", y.power(0), 10 + kind);
            }
        }
    }

    private static void divide() {
        bench.sentence("Promise 18", "a / b, as a CODE has it.");
        long[][] rows = {
            {7, 2, 3}, {-7, 2, -3}, {7, -2, -3}, {-7, -2, 3}, {0, 5, 0}, {1, 2, 0}, {-1, 2, 0},
            {LEAST, -1, LEAST}, {LEAST, 1, LEAST}, {MOST, -1, -MOST}, {MOST, LEAST, 0},
            {LEAST, MOST, -1}, {LEAST, LEAST, 1}, {1, 1L << 32, 0}, {1L << 40, 1L << 32, 256},
        };
        RunClasses x = new RunClasses(0);
        for (long[] row : rows) {
            bench.due(row[0] + " / " + row[1], Bench.divideOf(x, row[0], row[1]), row[2]);
            ofPorts(8, row[0], row[1], row[2]);
        }

        bench.sentence("Promise 18", "ArithmeticException: by 0.");
        for (long a : new long[] {5, 0, -1, LEAST, MOST}) {
            bench.due(a + " / 0", Bench.divideOf(x, a, 0), Bench.THROWN);
        }
        bench.due("5 / 2^32", Bench.divideOf(x, 5, 1L << 32), 0);
        bench.due("an exception is no refusal", x.refused(), 0);
        bench.dueFault(x, 0, 0, 0, 0, 0, 0, 0);
    }
}
