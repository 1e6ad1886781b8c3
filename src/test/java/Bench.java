/** What the tests share: answers due by a sentence of the document, and FILES as rows of octets. */
final class Bench {
    static final int START = 1;
    static final int RUN = 2;
    /** What handleOf, octetOf and divideOf answer where the program threw what the document asks. */
    static final int THROWN = 100_000;
    static final int[] NO_CONTROLLERS = {-1, 8, 9, 256, Integer.MIN_VALUE, Integer.MAX_VALUE};

    private static final int MOST_SECONDS = 300;

    private int calls = 0;
    private int callsOfSentence = 1;
    private int wrong = 0;
    private String sentence = "";

    Bench() {
        watch();
    }

    /** A test that does not end is one that fails. */
    static void watch() {
        Thread watcher = new Thread(() -> {
            try {
                Thread.sleep(1000L * MOST_SECONDS);
            } catch (InterruptedException e) {
                return;
            }
            System.out.println("not ended after " + MOST_SECONDS + " seconds");
            Runtime.getRuntime().halt(1);
        });
        watcher.setDaemon(true);
        watcher.start();
    }

    /**
     * The answers that follow are due by these words of the document, at this place of it: a
     * promise, or a paragraph under "Terms" by its first words. SentencesTest reads these calls in
     * the sources, and asks that every word of the promises and terms stands in one of them.
     */
    void sentence(String place, String words) {
        endSentence();
        sentence = place + ", \"" + words + "\": ";
        callsOfSentence = 0;
    }

    private void endSentence() {
        if (callsOfSentence == 0) {
            wrong++;
            System.out.println(sentence + "nothing was asked");
        }
    }

    void due(String what, long got, long want) {
        calls++;
        callsOfSentence++;
        if (got != want) {
            wrong++;
            System.out.println(sentence + what + " answered " + got + ", due is " + want);
        }
    }

    void due(String what, boolean got, boolean want) {
        due(what, got ? 1 : 0, want ? 1 : 0);
    }

    void dueFault(RunClasses x, int controller, int... want) {
        for (int what = 0; what < want.length; what++) {
            due("fault(" + controller + ", " + what + ")", x.fault(controller, what), want[what]);
        }
    }

    void dueCells(RunClasses x, int controller, int runnable, long... want) {
        for (int k = 0; k < want.length; k++) {
            due("cell(" + controller + ", " + runnable + ", " + k + ")",
                    x.cell(controller, runnable, k), want[k]);
        }
    }

    void duePorts(RunClasses x, int controller, long... want) {
        for (int p = 0; p < want.length; p++) {
            due("port(" + controller + ", " + p + ")", x.port(controller, p), want[p]);
        }
    }

    void dueOctets(RunClasses x, int runnable, int... want) {
        for (int i = 0; i < want.length; i++) {
            due("octet(" + runnable + ", " + i + ")", octetOf(x, runnable, i), want[i]);
        }
    }

    void end() {
        endSentence();
        System.out.println(calls + " answers, " + wrong + " wrong");
        if (wrong != 0) {
            System.exit(1);
        }
    }

    static int handleOf(RunClasses x, int controller, int runnable) {
        try {
            return x.handle(controller, runnable);
        } catch (IllegalStateException e) {
            return e.getClass() == IllegalStateException.class ? THROWN : THROWN + 1;
        }
    }

    /** The machine's own words begin with "Index": the program is to throw by itself. */
    static int octetOf(RunClasses x, int runnable, int i) {
        try {
            return x.octet(runnable, i);
        } catch (ArrayIndexOutOfBoundsException e) {
            return String.valueOf(e.getMessage()).startsWith("Index") ? THROWN + 1 : THROWN;
        }
    }

    /** The machine's own words are "/ by zero". */
    static long divideOf(RunClasses x, long a, long b) {
        try {
            return x.divide(a, b);
        } catch (ArithmeticException e) {
            return "/ by zero".equals(e.getMessage()) ? THROWN + 1 : THROWN;
        }
    }

    static int[] member(int mark, int... code) {
        int[] row = new int[code.length + 2];
        row[0] = mark;
        row[1] = code.length;
        System.arraycopy(code, 0, row, 2, code.length);
        return row;
    }

    static int[] start(int... code) {
        return member(START, code);
    }

    static int[] run(int... code) {
        return member(RUN, code);
    }

    static int[] joined(int[]... rows) {
        int length = 0;
        for (int[] row : rows) {
            length += row.length;
        }
        int[] all = new int[length];
        int at = 0;
        for (int[] row : rows) {
            System.arraycopy(row, 0, all, at, row.length);
            at += row.length;
        }
        return all;
    }

    /** Brings octets to the FILE under way, in calls as long as can be; the last answer. */
    static int send(RunClasses x, int... octets) {
        int answer = 0;
        for (int from = 0; from < octets.length; from += 8) {
            int n = Math.min(8, octets.length - from);
            long v = 0;
            for (int i = 0; i < n; i++) {
                v = v << 8 | octets[from + i] & 255;
            }
            answer = x.file(v, n);
        }
        return answer;
    }

    /** A new RUNNABLE (0) or EDITION of these members; what runnable() answers. */
    static int add(RunClasses x, int runnable, int[]... members) {
        send(x, joined(members));
        return x.runnable(runnable);
    }

    /** An object whose RUNNABLE 1 has these members and a CLASS in CONTROLLER 0. */
    static RunClasses made(int budget, int[]... members) {
        RunClasses x = new RunClasses(budget);
        add(x, 0, members);
        x.make(0, 1);
        return x;
    }

    /** An object whose RUNNABLE 1 has this RUN member and a CLASS in CONTROLLER 0, which is UP. */
    static RunClasses ready(int budget, int... code) {
        RunClasses x = made(budget, run(code));
        x.power(0);
        return x;
    }
}
