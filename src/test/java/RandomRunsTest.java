import java.math.BigInteger;
import java.util.ArrayDeque;
import java.util.ArrayList;
import java.util.Arrays;
import java.util.Deque;
import java.util.HashMap;
import java.util.List;
import java.util.Map;
import java.util.Random;
import java.util.TreeMap;

/** Runs of made-up calls, of fixed seeds, against a second, plain writing of the promises. */
public final class RandomRunsTest {
    private static final int RUNS = 3000;
    /** Nothing is promised beyond. */
    private static final int MOST_CALLS = 512;
    private static final int MOST_CALLS_OF_A_ROUND = 32;
    private static final int[] EXTREMES =
        {Integer.MIN_VALUE, Integer.MAX_VALUE, -128, 128, 255, 256, 65536};

    public static void main(String[] args) {
        Bench.watch();
        Map<String, Integer> seen = new TreeMap<>();
        for (int seed = 1; seed <= RUNS; seed++) {
            String wrong = new Run(seed, seen).go();
            if (wrong != null) {
                System.out.println("seed " + seed + ": " + wrong);
                System.exit(1);
            }
        }
        dueToBeSeen(seen);
        System.out.println(RUNS + " runs of up to " + MOST_CALLS
                + " calls each, all as the model answers");
        if (args.length > 0) {
            System.out.println(seen);
        }
    }

    /** A run of calls tells little unless every kind of answer comes up in it. */
    private static void dueToBeSeen(Map<String, Integer> seen) {
        String[] answers = {"run 1", "run -1", "run -3", "power 1", "power -3", "make 1", "make -3",
            "update 1", "update -3", "runnable -1", "runnable -2", "runnable -4", "file -4",
            "same 1", "same 0", "handle 1000", "handle -3", "octet 1000", "divide 1000"};
        List<String> all = new ArrayList<>(Arrays.asList(answers));
        for (int kind = 1; kind <= 7; kind++) {
            all.add("run " + (10 + kind));
            all.add("beside " + (10 + kind));
            all.add("power " + (10 + kind));
        }
        for (String answer : all) {
            if (!seen.containsKey(answer)) {
                System.out.println("never seen: " + answer);
                System.exit(1);
            }
        }
    }

    /** One object and its model, and the calls that both are asked. */
    private static final class Run {
        private final Random random;
        private final int budget;
        private final RunClasses real;
        private final Model model;
        private final Map<String, Integer> seen;
        /** Octets that are still to be brought to the FILE under way before it is asked for. */
        private final Deque<Integer> waiting = new ArrayDeque<>();
        /** Whether every FILE becomes an EDITION at once, so that there is no room in the end. */
        private final boolean pressing;
        /** Whether that is mostly RUNNABLE 1's, rather than a new RUNNABLE's. */
        private final boolean pressingOne;
        private boolean brought = false;
        private int calls = 0;

        Run(int seed, Map<String, Integer> seen) {
            random = new Random(seed);
            budget = seed % 40 == 0 ? -3 : random.nextInt(60);
            real = new RunClasses(budget);
            model = new Model(budget);
            this.seen = seen;
            pressing = seed % 4 == 0;
            pressingOne = seed % 8 == 0;
        }

        String go() {
            while (calls + MOST_CALLS_OF_A_ROUND <= MOST_CALLS) {
                int before = calls;
                String wrong = waiting.isEmpty() ? one() : bring();
                if (wrong != null) {
                    return "call " + calls + ", budget " + budget + ": " + wrong;
                }
                if (calls - before > MOST_CALLS_OF_A_ROUND) {
                    return "a round of " + (calls - before) + " calls";
                }
            }
            return null;
        }

        private String bring() {
            int n = Math.min(random.nextInt(3) == 0 ? 1 + random.nextInt(8) : 8, waiting.size());
            long v = random.nextLong();
            for (int i = 0; i < n; i++) {
                v = v << 8 | waiting.removeFirst();
            }
            brought = waiting.isEmpty();
            return check("file", n, real.file(v, n), model.file(v, n));
        }

        private String askForBrought() {
            brought = false;
            int which = whichToBecome();
            return check("runnable", which, real.runnable(which), model.runnable(which));
        }

        private int whichToBecome() {
            boolean first = model.runnables.isEmpty() && random.nextInt(20) != 0;
            if (first || pressing && random.nextInt(4) != 0) {
                return pressingOne && !first ? 1 : 0;
            }
            return random.nextInt(3) == 0 ? 0 : runnable();
        }

        private int extreme() {
            return EXTREMES[random.nextInt(EXTREMES.length)];
        }

        private int controller() {
            if (random.nextInt(200) == 0) {
                return extreme();
            }
            return random.nextInt(40) == 0 ? random.nextInt(12) - 2 : random.nextInt(3);
        }

        private int runnable() {
            if (random.nextInt(200) == 0) {
                return extreme();
            }
            int some = random.nextInt(30) == 0 ? 25 : Math.max(1, model.runnables.size());
            return random.nextInt(60) == 0 ? random.nextInt(4) - 2 : 1 + random.nextInt(some);
        }

        private int place() {
            if (random.nextInt(100) == 0) {
                return extreme();
            }
            return random.nextInt(20) == 0 ? random.nextInt(12) - 2 : random.nextInt(8);
        }

        private long number() {
            long[] edges = {Long.MIN_VALUE, Long.MAX_VALUE, -1, 0, 1, 2, 8, 1L << 32};
            return random.nextBoolean() ? edges[random.nextInt(edges.length)]
                    : random.nextInt(20) - 10;
        }

        private String one() {
            if (brought && (pressing || random.nextBoolean())) {
                return askForBrought();
            }
            if (random.nextInt(model.runnables.isEmpty() || pressing ? 2 : 30) == 0) {
                return newFile();
            }
            if (random.nextInt(3) == 0) {
                return runAndLook();
            }
            int c = controller();
            int r = runnable();
            int p = place();
            long v = number();
            switch (random.nextInt(22)) {
                case 0:
                    return newFile();
                case 1:
                    return askForBrought();
                case 2:
                case 3:
                    return check("make", c, real.make(c, r), model.make(c, r));
                case 4:
                case 5:
                    return check("power", c, real.power(c), model.power(c));
                case 6:
                case 7:
                case 8:
                    return check("run", r, real.run(c, r), model.callRun(c, r, false));
                case 9:
                    return check("beside", r, real.beside(c, r), model.callRun(c, r, true));
                case 10:
                    return check("port", p, real.port(c, p), model.port(c, p));
                case 11:
                    return check("set", p, real.set(c, p, v), model.set(c, p, v));
                case 12:
                    return check("cell", p, real.cell(c, r, p), model.cell(c, r, p));
                case 13:
                    int reaction = random.nextInt(5) - 1;
                    return check("reaction", reaction, real.reaction(c, reaction),
                            model.reaction(c, reaction));
                case 14:
                    return check("update", r, real.update(c, r), model.update(c, r));
                case 15:
                    return random.nextInt(3) != 0 ? null
                            : check("reset", c, real.reset(c), model.reset(c));
                case 16:
                    int d = controller();
                    return check("same", r, real.same(c, d, r) ? 1 : 0, model.same(c, d, r) ? 1 : 0);
                case 17:
                    return check("handle", r, realHandle(c, r), model.handle(c, r));
                case 18:
                    int i = random.nextInt(30) - 2;
                    return check("octet", i, realOctet(r, i), model.octet(r, i));
                case 19:
                    return divide(v, number());
                case 20:
                    int n = random.nextInt(11) - 1;
                    return random.nextInt(4) != 0 ? null
                            : check("file", n, real.file(v, n), model.file(v, n));
                default:
                    return state(c, r);
            }
        }

        /** A CALL, mostly in a CLASS that there is and that can run, and what became of it. */
        private String runAndLook() {
            int c = controller();
            int r = runnable();
            String wrong = null;
            if (model.knows(c, r)) {
                r = someMade(model.controllers.get(c), r);
                wrong = random.nextInt(8) == 0 ? null : helpUp(c, r);
            }
            int besides = random.nextInt(3);
            for (int i = 0; i < besides && wrong == null; i++) {
                wrong = check("beside", r, real.beside(c, r), model.callRun(c, r, true));
            }
            wrong = wrong != null ? wrong
                    : check("run", r, real.run(c, r), model.callRun(c, r, false));
            wrong = wrong != null ? wrong
                    : check("handle", r, realHandle(c, r), model.handle(c, r));
            return wrong != null ? wrong : random.nextInt(3) == 0 ? state(c, r) : glance(c, r);
        }

        private int someMade(ModelController owner, int otherwise) {
            List<Integer> made = new ArrayList<>(owner.classes.keySet());
            return made.isEmpty() || random.nextInt(8) == 0 ? otherwise
                    : made.get(random.nextInt(made.size()));
        }

        private String helpUp(int c, int r) {
            ModelController owner = model.controllers.get(c);
            ModelClass one = model.classOf(c, r);
            String wrong = null;
            if (one == null && owner.up || one != null && one.stopped && random.nextBoolean()) {
                wrong = check("reset", c, real.reset(c), model.reset(c));
            }
            if (wrong == null && one == null) {
                wrong = check("make", c, real.make(c, r), model.make(c, r));
            }
            if (wrong == null && one != null && one.edition != model.newest(r)) {
                wrong = check("update", r, real.update(c, r), model.update(c, r));
            }
            if (wrong == null && !owner.up) {
                wrong = check("power", c, real.power(c), model.power(c));
            }
            return wrong;
        }

        private String newFile() {
            List<Integer> octets = new Maker(random).octets();
            waiting.addAll(octets);
            return null;
        }

        private String divide(long a, long b) {
            long got;
            try {
                got = real.divide(a, b);
            } catch (ArithmeticException e) {
                got = 1000;
            }
            return check("divide", b, got, b == 0 ? 1000
                    : BigInteger.valueOf(a).divide(BigInteger.valueOf(b)).longValue());
        }

        private int realHandle(int c, int r) {
            try {
                return real.handle(c, r);
            } catch (IllegalStateException e) {
                return 1000;
            }
        }

        private int realOctet(int r, int i) {
            try {
                return real.octet(r, i);
            } catch (ArrayIndexOutOfBoundsException e) {
                return 1000;
            }
        }

        /** A little of what state() asks. */
        private String glance(int c, int r) {
            int what = random.nextInt(6);
            int k = random.nextInt(4);
            int p = random.nextInt(8);
            String wrong = check("fault", what, real.fault(c, what), model.fault(c, what));
            wrong = wrong != null ? wrong : check("cell", k, real.cell(c, r, k), model.cell(c, r, k));
            return wrong != null ? wrong : check("port", p, real.port(c, p), model.port(c, p));
        }

        /** All that can be asked without changing anything. */
        private String state(int c, int r) {
            for (int what = 0; what <= 5; what++) {
                String wrong = check("fault", what, real.fault(c, what), model.fault(c, what));
                if (wrong != null) {
                    return wrong;
                }
            }
            for (int k = 0; k < 8; k++) {
                String wrong = check("cell", k, real.cell(c, r, k), model.cell(c, r, k));
                wrong = wrong != null ? wrong
                        : check("port", k, real.port(c, k), model.port(c, k));
                if (wrong != null) {
                    return wrong;
                }
            }
            return check("refused", 0, real.refused(), model.refused);
        }

        private String check(String call, long told, long got, long want) {
            calls++;
            seen.merge(call + " " + Math.min(1000, Math.max(-1000, want)), 1, Integer::sum);
            return got == want ? null
                    : call + " (" + told + ") answered " + got + ", due is " + want;
        }
    }

    /** Makes FILES up, most of them RIGHT, with CODE that mostly means something. */
    private static final class Maker {
        private static final int[] TAKES =
            {0, 0, 1, 0, 1, 2, 2, 2, 2, 2, 2, 2, 1, 0, 1, 1, 0, 0, 0};
        private static final int[] LAYS =
            {1, 1, 0, 1, 0, 1, 1, 1, 1, 1, 1, 1, 2, 0, 0, 1, 0, 1, 0};
        private final Random random;
        /** How many numbers the PILE has about here, if no jump came in between. */
        private int height;

        Maker(Random random) {
            this.random = random;
        }

        List<Integer> octets() {
            List<List<Integer>> members = new ArrayList<>();
            members.add(member(2));
            if (random.nextBoolean()) {
                members.add(random.nextInt(2), member(1));
            }
            if (random.nextInt(4) == 0) {
                members.add(random.nextInt(members.size() + 1), member(0));
            }
            if (random.nextInt(25) == 0) {
                members.add(member(random.nextInt(4)));
            }
            List<Integer> all = new ArrayList<>();
            for (List<Integer> member : members) {
                all.addAll(member);
            }
            if (random.nextInt(25) == 0) {
                all.remove(all.size() - 1);
            }
            return all;
        }

        private List<Integer> member(int mark) {
            List<Integer> code = new ArrayList<>();
            int instructions = random.nextInt(mark == 1 ? 7 : 22);
            height = 0;
            if (random.nextInt(8) == 0) {
                for (int i = random.nextInt(18); i > 0; i--) {
                    code.add(12);
                }
                code.addAll(0, List.of(0, random.nextInt(3)));
                height = code.size() - 1;
            }
            for (int i = 0; i < instructions; i++) {
                instruction(code);
            }
            if (random.nextInt(20) == 0 && !code.isEmpty()) {
                code.remove(code.size() - 1);
            }
            code.add(0, code.size());
            code.add(0, mark);
            return code;
        }

        private void instruction(List<Integer> code) {
            int number = random.nextInt(90) == 0 ? random.nextInt(256) : random.nextInt(19);
            if (random.nextInt(30) != 0) {
                number = number == 18 && random.nextInt(4) != 0 ? 3 : number;
                number = number < TAKES.length && TAKES[number] > height ? random.nextInt(2) : number;
            }
            if (number == 17 && random.nextInt(3) != 0) {
                code.addAll(List.of(16, random.nextInt(8)));
            }
            height += number < TAKES.length ? LAYS[number] - TAKES[number] : 0;
            code.add(number);
            switch (number) {
                case 0:
                    code.add(random.nextInt(3) == 0 ? random.nextInt(256) : random.nextInt(9));
                    break;
                case 1: case 2: case 3: case 4: case 16:
                    code.add(random.nextInt(30) == 0 ? random.nextInt(256) : random.nextInt(8));
                    break;
                case 13: case 14:
                    code.add(random.nextInt(6) != 0 ? random.nextInt(4)
                            : random.nextInt(16) - 9 & 255);
                    break;
                case 18:
                    code.add(random.nextInt(256));
                    break;
                default:
                    break;
            }
        }
    }

    /** A CALL's end: of kind 0 it was done. */
    private static final class Outcome {
        int kind;
        int steps;
        int given;
    }

    private static final class ModelClass {
        int edition;
        Map<Long, Long> cells = new HashMap<>();
        boolean stopped;
        boolean keepsHandle;

        long cell(long k) {
            return cells.getOrDefault(k, 0L);
        }
    }

    private static final class ModelController {
        boolean up;
        int reaction;
        Map<Integer, Long> ports = new HashMap<>();
        Map<Integer, ModelClass> classes = new TreeMap<>();
        int[] fault = new int[5];
    }

    /** The promises once more, in the plainest form that the library gives. */
    private static final class Model {
        final int budget;
        final List<List<List<Integer>>> runnables = new ArrayList<>();
        final List<ModelController> controllers = new ArrayList<>();
        List<Integer> underWay = new ArrayList<>();
        int refused = 0;

        Model(int budget) {
            this.budget = budget;
            for (int c = 0; c < 8; c++) {
                controllers.add(new ModelController());
            }
        }

        int no(int why) {
            refused++;
            return why;
        }

        boolean knows(int controller, int runnable) {
            return controller >= 0 && controller <= 7 && knowsRunnable(runnable);
        }

        boolean knowsRunnable(int runnable) {
            return runnable >= 1 && runnable <= runnables.size();
        }

        ModelClass classOf(int c, int r) {
            return knows(c, r) ? controllers.get(c).classes.get(r) : null;
        }

        int newest(int r) {
            return runnables.get(r - 1).size();
        }

        int file(long v, int n) {
            if (n < 1 || n > 8) {
                return no(-2);
            }
            if (underWay.size() + n > 120) {
                return no(-4);
            }
            byte[] octets = BigInteger.valueOf(v).and(BigInteger.ONE.shiftLeft(8 * n)
                    .subtract(BigInteger.ONE)).add(BigInteger.ONE.shiftLeft(8 * n)).toByteArray();
            for (int i = octets.length - n; i < octets.length; i++) {
                underWay.add(octets[i] & 255);
            }
            return underWay.size();
        }

        /** The members as MARK and CODE; null when the row can not be cut up so. */
        static List<List<Integer>> cut(List<Integer> row) {
            if (row.isEmpty()) {
                return new ArrayList<>();
            }
            if (row.size() < 2 || row.get(0) > 2 || row.size() < 2 + row.get(1)) {
                return null;
            }
            int end = 2 + row.get(1);
            List<List<Integer>> rest = cut(row.subList(end, row.size()));
            if (rest != null) {
                List<Integer> member = new ArrayList<>(row.subList(0, end));
                member.remove(1);
                rest.add(0, member);
            }
            return rest;
        }

        static List<Integer> codeOf(List<Integer> file, int mark) {
            for (List<Integer> member : cut(file)) {
                if (member.get(0) == mark) {
                    return member.subList(1, member.size());
                }
            }
            return null;
        }

        static long countOf(List<List<Integer>> members, int mark) {
            return members.stream().filter(m -> m.get(0) == mark).count();
        }

        int runnable(int r) {
            if (r != 0 && !knowsRunnable(r)) {
                return no(-1);
            }
            List<List<Integer>> members = cut(underWay);
            if (members == null || countOf(members, 2) != 1 || countOf(members, 1) > 1) {
                underWay = new ArrayList<>();
                return no(-2);
            }
            if (r == 0 ? runnables.size() == 20 : newest(r) == 9) {
                return no(-4);
            }
            if (r == 0) {
                runnables.add(new ArrayList<>());
            }
            List<List<Integer>> editions = runnables.get(r == 0 ? runnables.size() - 1 : r - 1);
            editions.add(underWay);
            underWay = new ArrayList<>();
            return r == 0 ? runnables.size() : editions.size();
        }

        int make(int c, int r) {
            if (!knows(c, r)) {
                return no(-1);
            }
            if (controllers.get(c).up || classOf(c, r) != null) {
                return no(-3);
            }
            ModelClass made = new ModelClass();
            made.edition = newest(r);
            controllers.get(c).classes.put(r, made);
            return 1;
        }

        int power(int c) {
            if (c < 0 || c > 7) {
                return no(-1);
            }
            ModelController owner = controllers.get(c);
            if (owner.up) {
                return no(-3);
            }
            for (int r : owner.classes.keySet()) {
                ModelClass one = owner.classes.get(r);
                List<Integer> code = codeOf(runnables.get(r - 1).get(newest(r) - 1), 1);
                if (one.edition == newest(r) && code != null) {
                    Outcome end = new ModelCall(code, one, owner.ports, budget).go();
                    if (end.kind != 0) {
                        note(owner, r, end);
                        return 10 + end.kind;
                    }
                }
            }
            owner.up = true;
            return 1;
        }

        void note(ModelController owner, int r, Outcome end) {
            owner.fault = new int[] {end.kind, r, end.steps, end.given, owner.fault[4] + 1};
        }

        int callRun(int c, int r, boolean beside) {
            if (!knows(c, r)) {
                return no(-1);
            }
            ModelController owner = controllers.get(c);
            ModelClass one = classOf(c, r);
            if (!owner.up || one == null || one.stopped || one.edition != newest(r)) {
                return no(-3);
            }
            List<Integer> code = codeOf(runnables.get(r - 1).get(newest(r) - 1), 2);
            if (beside) {
                ModelClass copy = new ModelClass();
                copy.cells.putAll(one.cells);
                int kind = new ModelCall(code, copy, new HashMap<>(owner.ports), budget).go().kind;
                return kind == 0 ? 1 : 10 + kind;
            }
            Outcome end = new ModelCall(code, one, owner.ports, budget).go();
            if (end.kind == 0) {
                return 1;
            }
            note(owner, r, end);
            one.stopped = owner.reaction == 1;
            owner.up = owner.reaction != 2;
            return 10 + end.kind;
        }

        long port(int c, int p) {
            return c < 0 || c > 7 ? 0 : controllers.get(c).ports.getOrDefault(p, 0L);
        }

        int set(int c, int p, long v) {
            if (c < 0 || c > 7 || p < 0 || p > 7) {
                return no(-1);
            }
            controllers.get(c).ports.put(p, v);
            return 1;
        }

        long cell(int c, int r, int k) {
            ModelClass one = classOf(c, r);
            return one == null ? 0 : one.cell(k);
        }

        int reaction(int c, int v) {
            if (c < 0 || c > 7) {
                return no(-1);
            }
            if (v < 0 || v > 2) {
                return no(-2);
            }
            int before = controllers.get(c).reaction;
            controllers.get(c).reaction = v;
            return before;
        }

        int update(int c, int r) {
            if (!knows(c, r)) {
                return no(-1);
            }
            ModelClass one = classOf(c, r);
            if (one == null || one.edition == newest(r)) {
                return no(-3);
            }
            ModelClass made = new ModelClass();
            made.edition = newest(r);
            for (long k = 0; k <= 3; k++) {
                made.cells.put(k, one.cell(k));
            }
            controllers.get(c).classes.put(r, made);
            return 1;
        }

        int reset(int c) {
            if (c < 0 || c > 7) {
                return no(-1);
            }
            ModelController owner = controllers.get(c);
            owner.up = false;
            owner.ports.clear();
            for (int r : owner.classes.keySet()) {
                ModelClass made = new ModelClass();
                made.edition = newest(r);
                owner.classes.put(r, made);
            }
            return owner.classes.size();
        }

        int fault(int c, int what) {
            if (c < 0 || c > 7) {
                return no(-1);
            }
            ModelController owner = controllers.get(c);
            return what == 5 ? owner.up ? 1 : 0 : owner.fault[what];
        }

        boolean same(int c, int d, int r) {
            ModelClass one = classOf(c, r);
            ModelClass two = classOf(d, r);
            if (one == null || two == null || one.edition != two.edition) {
                return false;
            }
            boolean all = true;
            for (long k = 0; k < 8; k++) {
                all &= one.cell(k) == two.cell(k);
            }
            return all;
        }

        int handle(int c, int r) {
            ModelClass one = classOf(c, r);
            if (one != null && one.keepsHandle) {
                return 1000;
            }
            return no(knows(c, r) ? -3 : -1);
        }

        int octet(int r, int i) {
            List<Integer> file = knowsRunnable(r) ? runnables.get(r - 1).get(newest(r) - 1)
                    : List.of();
            return i < 0 || i >= file.size() ? 1000 : file.get(i).byteValue();
        }
    }

    /** A CALL; a failure is thrown by its kind, and so ends it wherever it is found. */
    private static final class ModelCall {
        private static final class Fails extends RuntimeException {
            private static final long serialVersionUID = 1L;
            final int kind;

            Fails(int kind) {
                this.kind = kind;
            }
        }

        private final List<Integer> code;
        private final ModelClass one;
        private final Map<Integer, Long> ports;
        private final int budget;
        private final List<Long> pile = new ArrayList<>();
        private final Outcome end = new Outcome();
        private int at = 0;
        private Integer handle = null;

        ModelCall(List<Integer> code, ModelClass one, Map<Integer, Long> ports, int budget) {
            this.code = code;
            this.one = one;
            this.ports = ports;
            this.budget = Math.max(0, Math.min(65536, budget));
        }

        Outcome go() {
            try {
                while (at != code.size()) {
                    if (end.steps == budget) {
                        throw new Fails(7);
                    }
                    end.steps++;
                    step();
                }
            } catch (Fails failure) {
                end.kind = failure.kind;
            }
            return end;
        }

        private int next() {
            if (at >= code.size()) {
                throw new Fails(1);
            }
            return code.get(at++);
        }

        private int place() {
            int k = next();
            if (k > 7) {
                throw new Fails(2);
            }
            return k;
        }

        private void needs(int numbers) {
            if (pile.size() < numbers) {
                throw new Fails(3);
            }
        }

        private long take() {
            needs(1);
            return pile.remove(pile.size() - 1);
        }

        private void room() {
            if (pile.size() == 16) {
                throw new Fails(3);
            }
        }

        private void lay(long v) {
            room();
            pile.add(v);
        }

        private void jump(int b) {
            int target = at + (b > 127 ? b - 256 : b);
            if (target < 0 || target > code.size()) {
                throw new Fails(1);
            }
            at = target;
        }

        private void step() {
            int number = next();
            if (number >= 5 && number <= 11) {
                needs(2);
                long y = take();
                lay(reckoned(number, take(), y));
            } else if (number == 0) {
                lay(Integer.valueOf(next()).byteValue());
            } else if (number == 1) {
                lay(one.cell(place()));
            } else if (number == 2) {
                one.cells.put((long) place(), take());
            } else if (number == 3) {
                lay(ports.getOrDefault(place(), 0L));
            } else if (number == 4) {
                ports.put(place(), take());
            } else if (number == 12) {
                long y = take();
                lay(y);
                lay(y);
            } else if (number == 13) {
                jump(next());
            } else if (number == 14) {
                int b = next();
                if (take() == 0) {
                    jump(b);
                }
            } else {
                stepOfTheLast(number);
            }
        }

        private void stepOfTheLast(int number) {
            if (number == 15) {
                long i = take();
                if (i < 0 || i > 7) {
                    throw new Fails(2);
                }
                lay(one.cell(i));
            } else if (number == 16) {
                handle = place();
                one.keepsHandle = true;
            } else if (number == 17) {
                room();
                if (handle == null) {
                    throw new Fails(5);
                }
                lay(ports.getOrDefault(handle, 0L));
            } else if (number == 18) {
                end.given = next();
                throw new Fails(6);
            } else {
                throw new Fails(1);
            }
        }

        private static long reckoned(int number, long first, long second) {
            BigInteger x = BigInteger.valueOf(first);
            BigInteger y = BigInteger.valueOf(second);
            if ((number == 8 || number == 9) && second == 0) {
                throw new Fails(4);
            }
            switch (number) {
                case 5:
                    return x.add(y).longValue();
                case 6:
                    return x.subtract(y).longValue();
                case 7:
                    return x.multiply(y).longValue();
                case 8:
                    return x.divide(y).longValue();
                case 9:
                    return x.remainder(y).longValue();
                case 10:
                    return x.compareTo(y) < 0 ? 1 : 0;
                default:
                    return x.equals(y) ? 1 : 0;
            }
        }
    }
}
