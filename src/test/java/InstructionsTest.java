/** The instructions of a CODE, one by one, and how a CALL FAILS at each. */
public final class InstructionsTest {
    private static final Bench bench = new Bench();
    private static final int BUDGET = 200;

    public static void main(String[] args) {
        layAndPlaces();
        reckoning();
        wrapping();
        goingOn();
        cellTaken();
        handles();
        wrongOctets();
        wrongPlaces();
        pileTooLow();
        pileTooHigh();
        byZeroAndGivingUp();
        firstOfTwo();
        bench.end();
    }

    /** The CODE ends well; cell 0 is what is due. */
    private static void good(long want, int... code) {
        RunClasses x = Bench.ready(BUDGET, code);
        String what = java.util.Arrays.toString(code);
        bench.due("beside of " + what, x.beside(0, 1), 1);
        bench.due("run of " + what, x.run(0, 1), 1);
        bench.due("cell 0 of " + what, x.cell(0, 1, 0), want);
        bench.dueFault(x, 0, 0, 0, 0, 0, 0, 1);
    }

    /** The CODE FAILS with this kind, after so many STEPS. */
    private static void bad(int kind, int steps, int given, int... code) {
        RunClasses x = Bench.ready(BUDGET, code);
        String what = java.util.Arrays.toString(code);
        bench.due("beside of " + what, x.beside(0, 1), 10 + kind);
        bench.due("run of " + what, x.run(0, 1), 10 + kind);
        bench.dueFault(x, 0, kind, 1, steps, given, 1, 1);
    }

    /** So many numbers on the PILE, and a CODE behind that. */
    private static int[] behindPile(int numbers, int... code) {
        int[] all = new int[2 * numbers + code.length];
        for (int i = 0; i < numbers; i++) {
            all[2 * i + 1] = 1;
        }
        System.arraycopy(code, 0, all, 2 * numbers, code.length);
        return all;
    }

    private static void layAndPlaces() {
        good(0, 0, 0, 2, 0);
        good(127, 0, 127, 2, 0);
        good(-128, 0, 128, 2, 0);
        good(-1, 0, 255, 2, 0);
        good(7, 0, 7, 2, 7, 1, 7, 2, 0);
        good(0, 0, 7, 2, 7, 1, 6, 2, 0);
        good(9, 0, 9, 4, 7, 3, 7, 2, 0);
        good(0, 0, 9, 4, 7, 3, 6, 2, 0);
        good(6, 0, 3, 12, 5, 2, 0);
        good(5, 0, 5, 12, 4, 0, 2, 0);
        RunClasses x = Bench.ready(BUDGET, 3, 2, 4, 3, 0, 77, 2, 6);
        x.set(0, 2, Long.MIN_VALUE);
        x.run(0, 1);
        bench.due("port 3", x.port(0, 3), Long.MIN_VALUE);
        bench.due("cell 6", x.cell(0, 1, 6), 77);
    }

    private static void reckoning() {
        good(10, 0, 7, 0, 3, 5, 2, 0);
        good(4, 0, 7, 0, 3, 6, 2, 0);
        good(21, 0, 7, 0, 3, 7, 2, 0);
        good(2, 0, 7, 0, 3, 8, 2, 0);
        good(-2, 0, 249, 0, 3, 8, 2, 0);
        good(-2, 0, 7, 0, 253, 8, 2, 0);
        good(2, 0, 249, 0, 253, 8, 2, 0);
        good(1, 0, 7, 0, 3, 9, 2, 0);
        good(-1, 0, 249, 0, 3, 9, 2, 0);
        good(1, 0, 7, 0, 253, 9, 2, 0);
        good(0, 0, 0, 0, 253, 9, 2, 0);
        good(0, 0, 7, 0, 3, 10, 2, 0);
        good(1, 0, 3, 0, 7, 10, 2, 0);
        good(0, 0, 3, 0, 3, 10, 2, 0);
        good(1, 0, 255, 0, 0, 10, 2, 0);
        good(1, 0, 3, 0, 3, 11, 2, 0);
        good(0, 0, 3, 0, 4, 11, 2, 0);
        good(0, 0, 4, 0, 3, 11, 2, 0);
    }

    /** What an instruction makes of ports 0 (x) and 1 (y). */
    private static void ofPorts(int instruction, long x, long y, long want) {
        RunClasses r = Bench.ready(BUDGET, 3, 0, 3, 1, instruction, 2, 0);
        r.set(0, 0, x);
        r.set(0, 1, y);
        bench.due("run " + instruction, r.run(0, 1), 1);
        bench.due(x + " " + instruction + " " + y, r.cell(0, 1, 0), want);
    }

    private static void wrapping() {
        long least = Long.MIN_VALUE;
        long most = Long.MAX_VALUE;
        ofPorts(5, most, 1, least);
        ofPorts(5, least, least, 0);
        ofPorts(6, least, 1, most);
        ofPorts(7, most, 2, -2);
        ofPorts(7, 1L << 32, 1L << 32, 0);
        ofPorts(7, 1L << 32, 1L << 31, least);
        ofPorts(8, least, -1, least);
        ofPorts(9, least, -1, 0);
        ofPorts(9, least, most, -1);
        ofPorts(8, most, least, 0);
        ofPorts(9, most, least, most);
        ofPorts(10, least, most, 1);
        ofPorts(10, most, least, 0);
        ofPorts(11, least, least, 1);
        ofPorts(11, 1L << 32, 0, 0);
        ofPorts(11, 5_000_000_000L, 5_000_000_000L, 1);
    }

    private static void goingOn() {
        good(1, 0, 1, 2, 0, 13, 0);
        good(1, 0, 1, 2, 0, 13, 2, 2, 0);
        good(1, 13, 4, 2, 0, 13, 4, 0, 1, 13, 248);
        good(2, 13, 4, 0, 2, 13, 2, 13, 250, 2, 0);
        good(5, 0, 0, 14, 2, 13, 4, 0, 5, 2, 0);
        good(0, 0, 1, 14, 2, 13, 4, 0, 5, 2, 0);
        good(0, 0, 255, 14, 2, 13, 4, 0, 5, 2, 0);
        // the number taken decides by all its 64 bits
        RunClasses x = Bench.ready(BUDGET, 3, 0, 14, 4, 0, 3, 2, 0);
        x.set(0, 0, 1L << 32);
        x.run(0, 1);
        bench.due("2^32 is not 0", x.cell(0, 1, 0), 3);
        // gone on at an octet that belongs to an instruction: it is read as one
        good(12, 0, 0, 13, 1, 13, 0, 12, 2, 0);
        bad(1, 1, 0, 13, 253);
        bad(1, 1, 0, 13, 1);
        bad(1, 1, 0, 13, 127);
        bad(1, 1, 0, 13, 128);
        bad(1, 2, 0, 0, 0, 14, 1);
        bad(1, 2, 0, 0, 0, 14, 251);
        bad(7, BUDGET, 0, 0, 0, 14, 252);
        good(0, 0, 1, 14, 1);
        good(0, 0, 1, 14, 128);
        bad(7, BUDGET, 0, 13, 254);
    }

    private static void cellTaken() {
        good(9, 0, 9, 2, 7, 0, 7, 15, 2, 0);
        good(9, 0, 9, 2, 0, 0, 0, 15, 2, 0);
        bad(2, 2, 0, 0, 8, 15);
        bad(2, 2, 0, 0, 255, 15);
        RunClasses x = Bench.ready(BUDGET, 3, 0, 15, 2, 0);
        x.set(0, 0, 1L << 32);
        bench.due("15 of 2^32", x.run(0, 1), 12);
        x.set(0, 0, Long.MIN_VALUE);
        bench.due("15 of the least", x.run(0, 1), 12);
        x.set(0, 0, Long.MAX_VALUE);
        bench.due("15 of the most", x.run(0, 1), 12);
        good(0, behindPile(16, 15, 2, 0));
    }

    private static void handles() {
        good(5, 0, 5, 4, 3, 16, 3, 17, 2, 0);
        good(6, 0, 5, 4, 3, 16, 3, 0, 6, 4, 3, 17, 2, 0);
        good(7, 0, 7, 4, 1, 16, 3, 16, 1, 17, 2, 0);
        bad(5, 1, 0, 17);
        bad(5, 2, 0, 0, 1, 17);
    }

    private static void wrongOctets() {
        for (int number = 19; number < 256; number++) {
            bad(1, 1, 0, number);
            bad(1, 1, 0, number, 0);
        }
        int[] withOctet = {0, 1, 2, 3, 4, 13, 14, 16, 18};
        for (int number : withOctet) {
            bad(1, 1, 0, number);
        }
        bad(1, 3, 0, 0, 1, 12, 0);
    }

    private static void wrongPlaces() {
        int[] named = {1, 2, 3, 4, 16};
        for (int number : named) {
            bad(2, 1, 0, number, 8);
            bad(2, 1, 0, number, 255);
            bad(2, 2, 0, 0, 1, number, 128);
        }
        good(0, 0, 0, 12, 12, 2, 7, 4, 7, 1, 7, 3, 7, 16, 7, 2, 0);
    }

    private static void pileTooLow() {
        int[] one = {12, 15};
        int[] two = {5, 6, 7, 8, 9, 10, 11};
        for (int number : one) {
            bad(3, 1, 0, number);
        }
        bad(3, 1, 0, 2, 0);
        bad(3, 1, 0, 4, 0);
        bad(3, 1, 0, 14, 0);
        for (int number : two) {
            bad(3, 1, 0, number);
            bad(3, 2, 0, 0, 1, number);
            good(0, 0, 1, 0, 1, number);
        }
    }

    private static void pileTooHigh() {
        good(0, behindPile(16));
        bad(3, 17, 0, behindPile(17));
        bad(3, 17, 0, behindPile(16, 0, 1));
        bad(3, 17, 0, behindPile(16, 1, 0));
        bad(3, 17, 0, behindPile(16, 3, 0));
        bad(3, 17, 0, behindPile(16, 12));
        bad(3, 18, 0, behindPile(16, 16, 0, 17));
        good(0, behindPile(15, 12));
        good(0, behindPile(15, 16, 0, 17));
        good(2, behindPile(16, 5, 2, 0));
        good(0, behindPile(16, 14, 0));
        good(0, behindPile(16, 13, 0));
    }

    private static void byZeroAndGivingUp() {
        bad(4, 3, 0, 0, 1, 0, 0, 8);
        bad(4, 3, 0, 0, 1, 0, 0, 9);
        bad(4, 3, 0, 0, 0, 0, 0, 8);
        good(1, 0, 1, 0, 0, 7, 0, 1, 5, 2, 0);
        bad(6, 1, 0, 18, 0);
        bad(6, 1, 7, 18, 7);
        bad(6, 1, 255, 18, 255);
        bad(6, 2, 9, 0, 1, 18, 9);
    }

    /** Where two ways to FAIL fit one instruction, it is the first of them. */
    private static void firstOfTwo() {
        bad(2, 1, 0, 2, 8);
        bad(2, 1, 0, 4, 8);
        bad(2, 17, 0, behindPile(16, 1, 8));
        bad(2, 17, 0, behindPile(16, 3, 8));
        bad(1, 17, 0, behindPile(16, 0));
        bad(1, 17, 0, behindPile(16, 1));
        bad(3, 17, 0, behindPile(16, 17));
        bad(3, 2, 0, 0, 0, 8);
        bad(3, 2, 0, 0, 0, 9);
        // nothing can be taken, so it is not to be gone on anywhere
        bad(3, 1, 0, 14, 100);
    }
}
