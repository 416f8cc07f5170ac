import java.util.ArrayDeque;
import java.util.ArrayList;
import java.util.Deque;
import java.util.List;
import java.util.Map;
import java.util.Random;
import java.util.TreeMap;

/** Random runs of calls, with fixed seeds: each answer must be the one of PlainHouse. */
public final class ModelTest {
    private static final int CALLS = 512;

    private static int wrong = 0;
    private static int left = 0;
    private static final Map<String, Map<String, Integer>> answers = new TreeMap<>();

    private final Random random;
    private final TimingHouse house = new TimingHouse();
    private final PlainHouse plain = new PlainHouse();
    private final int seed;
    private final int most;
    private final int scale;
    private final int wild;
    private final List<String> log = new ArrayList<>();
    /** What is asked next, so that a path is looked at step by step. */
    private final Deque<int[]> asked = new ArrayDeque<>();

    private ModelTest(int seed) {
        this.seed = seed;
        random = new Random(seed);
        most = 3 + random.nextInt(random.nextInt(6) == 0 ? 48 : 14);
        scale = random.nextBoolean() ? 60 : 3000;
        wild = random.nextInt(4) == 0 ? 4 : 60;
        if (random.nextBoolean()) {
            planNet();
        }
    }

    /** A whole net with all inputs taken, and tables by which a greater load takes longer, for fix() and long orders. */
    private void planNet() {
        int starts = 2 + random.nextInt(4);
        int gates = 2 + random.nextInt(8);
        int ends = 1 + random.nextInt(3);
        for (int c = 0; c < starts; c++) {
            asked.add(new int[] {0, random.nextInt(3) == 0 ? 0 : 4, 0, random.nextInt(2)});
        }
        for (int c = starts; c < starts + gates; c++) {
            int inputs = 1 + random.nextInt(3);
            asked.add(new int[] {0, 1 + random.nextInt(2), inputs, random.nextInt(2)});
            for (int i = 0; i < inputs; i++) {
                asked.add(new int[] {1, Math.max(0, c - 1 - random.nextInt(random.nextInt(3) == 0 ? c : 4)), c, i});
            }
        }
        for (int c = starts + gates; c < starts + gates + ends; c++) {
            asked.add(new int[] {0, 5, 0, 0});
            asked.add(new int[] {1, starts + random.nextInt(gates), c, 0});
        }
        for (int c = 0; c < starts; c++) {
            asked.add(new int[] {1, starts + random.nextInt(gates), c, 0});
        }
        for (int t = 0; t < 2; t++) {
            for (int row = 0; row < 4; row++) {
                asked.add(new int[] {6, t, 0, row, 0, Math.min(3000, random.nextInt(20) + row * random.nextInt(200))});
                asked.add(new int[] {6, t, 1, row, 1 + random.nextInt(2), random.nextInt(80)});
                asked.add(new int[] {6, t, 0, row, 1 + random.nextInt(2), random.nextInt(200)});
            }
        }
        for (int c = 0; c < starts + gates; c++) {
            asked.add(new int[] {2, c, random.nextInt(3) == 0 ? 0 : random.nextInt(60)});
        }
        asked.add(new int[] {10, 1 + random.nextInt(120)});
        if (random.nextBoolean()) {
            asked.add(new int[] {26});
        }
    }

    public static void main(String[] args) {
        int runs = args.length > 0 ? Integer.parseInt(args[0]) : 200;
        int first = args.length > 1 ? Integer.parseInt(args[1]) : 1;
        for (int seed = first; seed < first + runs && wrong < 5; seed++) {
            new ModelTest(seed).run();
        }
        if (args.length > 0) {
            System.out.println(answers);
        }
        System.out.println(left + " of " + runs + " runs were left as they had too many paths to walk");
        System.out.println(wrong == 0 ? "all answers are as due" : wrong + " answers are not as due");
        if (wrong != 0) {
            System.exit(1);
        }
    }

    private void run() {
        for (int i = 0; i < CALLS; i++) {
            int[] call;
            int due;
            try {
                call = asked.isEmpty() ? next(i) : asked.poll();
                due = onPlain(call);
            } catch (PlainHouse.TooMany e) {
                left++;
                return;
            }
            int got = onHouse(call);
            note(call, due);
            log.add(text(call) + " = " + due);
            if (got != due) {
                wrong++;
                log.forEach(System.out::println);
                System.out.println("seed " + seed + ": " + text(call) + " answered " + got + ", due is " + due);
                return;
            }
        }
    }

    private static void note(int[] call, int due) {
        String kind = due < 0 ? due == -1000000 || due > -13 ? "" + due : "below" : due == 0 ? "0"
                : due == 1000000000 ? "none" : "above";
        answers.computeIfAbsent(NAMES[call[0]], n -> new TreeMap<>()).merge(kind, 1, Integer::sum);
    }

    private static final String[] NAMES = {"make", "wire", "extra", "size", "port", "target", "entry", "tear", "fall",
        "corner", "period", "node", "except", "unexcept", "about", "takes", "arrival", "told", "slack", "hold",
        "worst", "paths", "path", "step", "common", "least", "fix", "area", "count"};

    private static String text(int[] call) {
        StringBuilder b = new StringBuilder(NAMES[call[0]]).append('(');
        for (int i = 1; i < call.length; i++) {
            b.append(i > 1 ? ", " : "").append(call[i]);
        }
        return b.append(')').toString();
    }

    /** A number from a to b, or now and then one at or beyond the rim. */
    private int num(int a, int b) {
        if (random.nextInt(wild) == 0) {
            int[] rims = {a - 1, b + 1, a, b, Integer.MIN_VALUE, Integer.MAX_VALUE, -1, -5, a - 7, b + 7};
            return rims[random.nextInt(rims.length)];
        }
        return a + random.nextInt(b - a + 1);
    }

    private int cell() {
        return num(0, Math.max(0, plain.count(0) - 1));
    }

    private int cellOfKind(int one, int other) {
        for (int i = 0; i < 20; i++) {
            int c = cell();
            int kind = plain.about(c, 0);
            if (kind == one || kind == other || random.nextInt(30) == 0) {
                return c;
            }
        }
        return cell();
    }

    private int cellOrAny() {
        return random.nextBoolean() ? -1 : cell();
    }

    private int[] next(int i) {
        boolean building = plain.count(0) < most && (i < 3 || random.nextInt(3) == 0);
        if (building) {
            int[] kinds = {0, 1, 1, 2, 2, 3, 4, 4, 5};
            int kind = random.nextInt(40) == 0 ? num(0, 5) : kinds[random.nextInt(kinds.length)];
            return new int[] {0, kind, num(1, random.nextInt(3) == 0 ? 4 : 2), num(0, 7) & (random.nextInt(9) == 0 ? -1 : 1)};
        }
        int part = random.nextInt(100);
        if (part < 30) {
            return wiring();
        }
        return part < 60 ? change(random.nextInt(20)) : question(random.nextInt(24));
    }

    private int[] wiring() {
        int to = cell();
        int inputs = Math.max(1, plain.about(to, 1));
        int input = num(0, inputs - 1);
        int from = random.nextInt(12) == 0 ? -1 : cell();
        if (random.nextInt(3) > 0 && from > to && plain.about(from, 0) != 4) {
            from = Math.max(0, to - 1 - random.nextInt(4));
        }
        return new int[] {1, from, to, input};
    }

    private int table() {
        return random.nextInt(6) == 0 ? num(0, 7) : random.nextInt(2);
    }

    private int[] change(int which) {
        switch (which) {
            case 0: case 1:
                return new int[] {2, cell(), num(0, random.nextInt(4) == 0 ? 1000 : 40)};
            case 2: case 3:
                return new int[] {3, cell(), num(0, 2)};
            case 4:
                return new int[] {4, cellOfKind(0, 0), num(0, scale), num(0, scale), num(0, 80)};
            case 5:
                return new int[] {4, cellOfKind(0, 0), num(0, 100000), num(0, 100000), num(0, 100000)};
            case 6: case 7:
                return new int[] {5, cellOfKind(4, 5), num(-1, plain.count(1) - 1), num(-scale, scale), num(-scale, scale)};
            case 8:
                return new int[] {5, cellOfKind(5, 5), -1, num(-10000, 10000), num(-10000, 10000)};
            case 9: case 10: case 11:
                return new int[] {6, table(), num(0, 1), num(0, 3), num(0, 2), num(0, scale)};
            case 12:
                return new int[] {7, table(), num(0, 1), num(0, 3), num(0, 3)};
            case 13:
                return new int[] {7, table(), num(0, 1), num(0, 3), 3};
            case 14:
                return new int[] {8, table(), num(0, 1000) % (scale + 1)};
            case 15:
                return new int[] {9, num(0, 500), num(0, 500)};
            case 16:
                return new int[] {10, num(1, random.nextBoolean() ? 100 : 5000)};
            case 17:
                return new int[] {11, num(-1, plain.count(1) - 1), num(0, 30), num(20, 100)};
            case 18:
                return new int[] {12, random.nextInt(9) == 0 ? num(0, 4) : new int[] {0, 2, 3, 4}[random.nextInt(4)],
                    cellOrAny(), cellOrAny(), cellOrAny()};
            default:
                return new int[] {random.nextInt(3) == 0 ? 13 : 26};
        }
    }

    private int[] question(int which) {
        switch (which) {
            case 0: case 1:
                return new int[] {14, cell(), num(0, 5)};
            case 2:
                return new int[] {15, cell(), num(0, 3)};
            case 3: case 4: case 5:
                return new int[] {16, cell(), num(0, 1), num(0, 3)};
            case 6:
                return new int[] {17, cell()};
            case 7: case 8:
                return new int[] {18, cellOfKind(4, 5)};
            case 9: case 10:
                return new int[] {19, cellOfKind(4, 5)};
            case 11:
                return new int[] {20, num(0, 1)};
            case 12:
                return new int[] {21, cellOfKind(4, 5)};
            case 13: case 14: case 15: case 16:
                return askPath();
            case 17:
                return new int[] {23, num(0, 5), num(0, 5)};
            case 18:
                return new int[] {24, cellOfKind(4, 4), cellOfKind(4, 4)};
            case 19: case 20:
                return new int[] {25, num(1, random.nextBoolean() ? 1000000 : scale)};
            case 21:
                return new int[] {26};
            case 22:
                return new int[] {27};
            default:
                return new int[] {28, num(0, 3)};
        }
    }

    private int[] askPath() {
        int c = cellOfKind(4, 5);
        int last = Math.max(0, plain.paths(c) - 1);
        int steps = random.nextInt(5);
        for (int i = 0; i < steps; i++) {
            asked.add(new int[] {23, num(0, 5), num(0, 5)});
        }
        return new int[] {22, c, num(0, last)};
    }

    private int onHouse(int[] a) {
        switch (a[0]) {
            case 0: return house.make(a[1], a[2], a[3]);
            case 1: return house.wire(a[1], a[2], a[3]);
            case 2: return house.extra(a[1], a[2]);
            case 3: return house.size(a[1], a[2]);
            case 4: return house.port(a[1], a[2], a[3], a[4]);
            case 5: return house.target(a[1], a[2], a[3], a[4]);
            case 6: return house.entry(a[1], a[2], a[3], a[4], a[5]);
            case 7: return house.tear(a[1], a[2], a[3], a[4]);
            case 8: return house.fall(a[1], a[2]);
            case 9: return house.corner(a[1], a[2]);
            case 10: return house.period(a[1]);
            case 11: return house.node(a[1], a[2], a[3]);
            case 12: return house.except(a[1], a[2], a[3], a[4]);
            case 13: return house.unexcept();
            case 14: return house.about(a[1], a[2]);
            case 15: return house.takes(a[1], a[2]);
            case 16: return house.arrival(a[1], a[2], a[3]);
            case 17: return house.told(a[1]);
            case 18: return house.slack(a[1]);
            case 19: return house.hold(a[1]);
            case 20: return house.worst(a[1]);
            case 21: return house.paths(a[1]);
            case 22: return house.path(a[1], a[2]);
            case 23: return house.step(a[1], a[2]);
            case 24: return house.common(a[1], a[2]);
            case 25: return house.least(a[1]);
            case 26: return house.fix();
            case 27: return house.area();
            default: return house.count(a[1]);
        }
    }

    private int onPlain(int[] a) {
        switch (a[0]) {
            case 0: return plain.make(a[1], a[2], a[3]);
            case 1: return plain.wire(a[1], a[2], a[3]);
            case 2: return plain.extra(a[1], a[2]);
            case 3: return plain.size(a[1], a[2]);
            case 4: return plain.port(a[1], a[2], a[3], a[4]);
            case 5: return plain.target(a[1], a[2], a[3], a[4]);
            case 6: return plain.entry(a[1], a[2], a[3], a[4], a[5]);
            case 7: return plain.tear(a[1], a[2], a[3], a[4]);
            case 8: return plain.fall(a[1], a[2]);
            case 9: return plain.corner(a[1], a[2]);
            case 10: return plain.period(a[1]);
            case 11: return plain.node(a[1], a[2], a[3]);
            case 12: return plain.except(a[1], a[2], a[3], a[4]);
            case 13: return plain.unexcept();
            case 14: return plain.about(a[1], a[2]);
            case 15: return plain.takes(a[1], a[2]);
            case 16: return plain.arrival(a[1], a[2], a[3]);
            case 17: return plain.told(a[1]);
            case 18: return plain.slack(a[1]);
            case 19: return plain.hold(a[1]);
            case 20: return plain.worst(a[1]);
            case 21: return plain.paths(a[1]);
            case 22: return plain.path(a[1], a[2]);
            case 23: return plain.step(a[1], a[2]);
            case 24: return plain.common(a[1], a[2]);
            case 25: return plain.least(a[1]);
            case 26: return plain.fix();
            case 27: return plain.area();
            default: return plain.count(a[1]);
        }
    }
}
