/** What the tests share: a count of wrong answers, and FILES written as rows of octets. */
final class Bench {
    static final int START = 1;
    static final int RUN = 2;

    private int calls = 0;
    private int wrong = 0;

    void due(String what, long got, long want) {
        calls++;
        if (got != want) {
            wrong++;
            System.out.println(what + " answered " + got + ", due is " + want);
        }
    }

    void due(String what, boolean got, boolean want) {
        due(what, got ? 1 : 0, want ? 1 : 0);
    }

    /** One row of ports, cells or faults against what is due, from 0 on. */
    void dueFault(RunClasses x, int controller, int... want) {
        for (int what = 0; what < want.length; what++) {
            due("fault(" + controller + ", " + what + ")", x.fault(controller, what), want[what]);
        }
    }

    void dueCells(RunClasses x, int controller, int runnable, long... want) {
        for (int k = 0; k < want.length; k++) {
            due("cell(" + controller + ", " + runnable + ", " + k + ")",
                    x.cell(controller, runnable, k), want[k]);
        }
    }

    void end() {
        System.out.println(calls + " answers, " + wrong + " wrong");
        if (wrong != 0) {
            System.exit(1);
        }
    }

    static int[] member(int mark, int... code) {
        int[] row = new int[code.length + 2];
        row[0] = mark;
        row[1] = code.length;
        System.arraycopy(code, 0, row, 2, code.length);
        return row;
    }

    static int[] start(int... code) {
        return member(START, code);
    }

    static int[] run(int... code) {
        return member(RUN, code);
    }

    /** Brings octets to the FILE under way, in calls as long as can be; the last answer. */
    static int send(RunClasses x, int... octets) {
        int answer = 0;
        for (int from = 0; from < octets.length; from += 8) {
            int n = Math.min(8, octets.length - from);
            long v = 0;
            for (int i = 0; i < n; i++) {
                v = v << 8 | octets[from + i] & 255;
            }
            answer = x.file(v, n);
        }
        return answer;
    }

    static int[] joined(int[]... rows) {
        int length = 0;
        for (int[] row : rows) {
            length += row.length;
        }
        int[] all = new int[length];
        int at = 0;
        for (int[] row : rows) {
            System.arraycopy(row, 0, all, at, row.length);
            at += row.length;
        }
        return all;
    }

    /** A new RUNNABLE (0) or EDITION of these members; what runnable() answers. */
    static int add(RunClasses x, int runnable, int[]... members) {
        send(x, joined(members));
        return x.runnable(runnable);
    }

    /** An object whose RUNNABLE 1 has this RUN member and a CLASS in CONTROLLER 0, which is UP. */
    static RunClasses ready(int budget, int... code) {
        RunClasses x = new RunClasses(budget);
        add(x, 0, run(code));
        x.make(0, 1);
        x.power(0);
        return x;
    }
}
