import java.util.Arrays;

/** A house for timing: nets of cells whose signals race a clock. */
public final class TimingHouse {
    public static final int BAD = -1, KIND = -2, FULL = -3, RING = -4, MISSING = -11, ENDED = -12;

    private static final int NONE = -5;
    private static final int ROOT = -1;
    private static final int ANY = -1;
    private static final int NO_ARRIVAL = -1000000;
    private static final int NO_SLACK = 1000000000;
    /** Later than any arrival, greater than any slope. */
    private static final int FAR = 1000000000;

    private static final int PORT = 0, TURNING = 2, BUFFER = 3, FLOP = 4, END = 5;

    private static final int MOST_CELLS = 50;
    private static final int MOST_INPUTS = 4;
    private static final int MOST_WIRES = MOST_CELLS * MOST_INPUTS;
    private static final int MOST_NODES = 20;
    private static final int MOST_RULES = 4;
    private static final int MOST_MASKS = 1 << MOST_RULES;
    private static final int MOST_PATHS = 1000;
    private static final int MOST_CHANGES = 100;
    /** A FLOP can be both START and TARGET, so a path may have one step more than there are cells. */
    private static final int MOST_STEPS = MOST_CELLS + 1;

    private static final int TABLES = 8;
    private static final int PARTS = 2;
    private static final int ROWS = 4;
    private static final int COLUMNS = 3;
    private static final int DELAYS = 0, SLOPES = 1;
    private static final int MOST_SIZE = 2;
    private static final int MOST_PERIOD = 1000000;

    private final Net net = new Net();
    private final Stations stations = new Stations();
    private final Clock clock = new Clock();
    private final Rules rules = new Rules();
    private final Tables tables = new Tables();
    private final Timing timing = new Timing(net, stations, clock, tables);
    private final Race race = new Race(net, stations, clock, rules, timing);
    private final Tracer tracer = new Tracer(net, clock, rules, timing, race);
    private final Trail shown = new Trail();
    private final Trail trial = new Trail();
    private boolean timed;
    private boolean raced;

    public TimingHouse() {
    }

    // ---- the net

    public int make(int kind, int inputs, int table) {
        if (kind < PORT || kind > END || !Tables.has(table)) {
            return BAD;
        }
        boolean asksInputs = Net.isGateKind(kind) && kind != BUFFER;
        if (asksInputs && !within(inputs, 1, MOST_INPUTS)) {
            return BAD;
        }
        if (net.cells >= MOST_CELLS) {
            return FULL;
        }
        int own = asksInputs ? inputs : kind == PORT ? 0 : 1;
        forget();
        return net.addCell(kind, own, table);
    }

    public int wire(int from, int to, int input) {
        if ((from != ANY && !net.has(from)) || !net.hasInput(to, input)) {
            return BAD;
        }
        if (from != ANY && net.kinds[from] == END) {
            return KIND;
        }
        if (from != ANY && net.wouldRing(from, to)) {
            return RING;
        }
        forget();
        return net.connect(from == ANY ? NONE : from, to * MOST_INPUTS + input);
    }

    public int extra(int c, int v) {
        if (!net.has(c) || !within(v, 0, 1000)) {
            return BAD;
        }
        if (net.kinds[c] == END) {
            return KIND;
        }
        int was = net.extras[c];
        net.extras[c] = v;
        forget();
        return was;
    }

    public int size(int c, int z) {
        if (!net.has(c) || !within(z, 0, MOST_SIZE)) {
            return BAD;
        }
        if (!net.hasSize(c)) {
            return KIND;
        }
        int was = net.sizes[c];
        net.sizes[c] = z;
        forget();
        return was;
    }

    public int port(int c, int early, int late, int slope) {
        if (!net.has(c) || !within(early, 0, 100000) || !within(late, 0, 100000) || !within(slope, 0, 100000)) {
            return BAD;
        }
        if (net.kinds[c] != PORT) {
            return KIND;
        }
        stations.earlies[c] = early;
        stations.lates[c] = late;
        stations.slopes[c] = slope;
        forget();
        return 0;
    }

    public int target(int c, int node, int setup, int hold) {
        if (!net.has(c) || !clock.hasOrRoot(node) || !within(setup, -10000, 10000) || !within(hold, -10000, 10000)) {
            return BAD;
        }
        if (net.kinds[c] == END && node != ROOT) {
            return BAD;
        }
        if (!net.isTarget(c)) {
            return KIND;
        }
        stations.nodes[c] = node;
        stations.setups[c] = setup;
        stations.holds[c] = hold;
        forget();
        return 0;
    }

    // ---- tables, clock, corners

    public int entry(int table, int part, int row, int column, int v) {
        if (!Tables.hasRow(table, part, row) || !within(column, 0, COLUMNS - 1) || !within(v, 0, 3000)) {
            return BAD;
        }
        int place = Tables.rowPlace(table, part, row);
        int why = tables.whyAbsent(place, column);
        if (why != 0) {
            return why;
        }
        int was = tables.numbers[place * COLUMNS + column];
        tables.numbers[place * COLUMNS + column] = v;
        forget();
        return was;
    }

    public int tear(int table, int part, int row, int left) {
        if (!Tables.hasRow(table, part, row) || !within(left, 0, COLUMNS)) {
            return BAD;
        }
        forget();
        return tables.cutRow(Tables.rowPlace(table, part, row), left);
    }

    public int fall(int table, int v) {
        if (!Tables.has(table) || !within(v, 0, 1000)) {
            return BAD;
        }
        int was = tables.falls[table];
        tables.falls[table] = v;
        forget();
        return was;
    }

    public int corner(int late, int early) {
        if (!within(late, 0, 500) || !within(early, 0, 500)) {
            return BAD;
        }
        tables.lateCorner = late;
        tables.earlyCorner = early;
        forget();
        return 0;
    }

    public int period(int p) {
        if (!within(p, 1, MOST_PERIOD)) {
            return BAD;
        }
        int was = clock.length;
        clock.length = p;
        forget();
        return was;
    }

    public int node(int parent, int early, int late) {
        if (!clock.hasOrRoot(parent) || early < 0 || early > late || late > 100000) {
            return BAD;
        }
        if (clock.nodes >= MOST_NODES) {
            return FULL;
        }
        return clock.addNode(parent, early, late);
    }

    public int except(int n, int from, int through, int to) {
        if ((n != 0 && !within(n, 2, 4)) || !hasOrAny(from) || !hasOrAny(through) || !hasOrAny(to)) {
            return BAD;
        }
        if (from == ANY && through == ANY && to == ANY) {
            return BAD;
        }
        if (rules.told >= MOST_RULES) {
            return FULL;
        }
        forget();
        return rules.addRule(n, from, through, to);
    }

    public int unexcept() {
        if (rules.told <= 0) {
            return BAD;
        }
        forget();
        return rules.dropLatest();
    }

    // ---- what is told

    public int about(int c, int what) {
        if (!net.has(c)) {
            return BAD;
        }
        switch (what) {
            case 0:
                return net.kinds[c];
            case 1:
                return net.inputs[c];
            case 2:
                return net.sizes[c];
            case 3:
                return net.loadOf(c);
            case 4:
                refreshTiming();
                return timing.isReached(c) ? 1 : 0;
            case 5:
                refreshTiming();
                return timing.whyOpen(c);
            default:
                return BAD;
        }
    }

    public int takes(int c, int input) {
        return net.hasInput(c, input) ? net.sources[c * MOST_INPUTS + input] : BAD;
    }

    public int arrival(int c, int edge, int what) {
        if (!net.has(c) || net.kinds[c] == END || !within(edge, 0, 1)) {
            return NO_ARRIVAL;
        }
        refreshTiming();
        if (!timing.reached[c] || timing.open[c] != 0) {
            return NO_ARRIVAL;
        }
        int at = c * 2 + edge;
        switch (what) {
            case 0:
                return timing.lateArrivals[at];
            case 1:
                return timing.earlyArrivals[at];
            case 2:
                return timing.lateSlopes[at];
            case 3:
                return timing.earlySlopes[at];
            default:
                return NO_ARRIVAL;
        }
    }

    public int told(int c) {
        if (!net.has(c)) {
            return BAD;
        }
        if (!net.isTarget(c)) {
            return KIND;
        }
        refreshRace();
        if (timing.isInputOpen(c * MOST_INPUTS)) {
            return 2;
        }
        return race.counts[c] > 0 ? 1 : 0;
    }

    public int slack(int c) {
        return isTold(c) ? race.slacks[c] : NO_SLACK;
    }

    public int hold(int c) {
        return isTold(c) ? race.holdSlacks[c] : NO_SLACK;
    }

    public int worst(int how) {
        if (!within(how, 0, 1)) {
            return BAD;
        }
        refreshRace();
        return race.leastOf(how == 0 ? race.slacks : race.holdSlacks);
    }

    public int paths(int c) {
        if (!net.has(c)) {
            return BAD;
        }
        if (!net.isTarget(c)) {
            return KIND;
        }
        refreshRace();
        return race.counts[c];
    }

    public int path(int c, int k) {
        if (!net.has(c) || k < 0) {
            return BAD;
        }
        if (!net.isTarget(c)) {
            return KIND;
        }
        refreshRace();
        if (race.counts[c] >= MOST_PATHS || k >= race.counts[c]) {
            return BAD;
        }
        tracer.trace(c, k, shown);
        return shown.length;
    }

    public int step(int i, int what) {
        if (shown.length == 0) {
            return NO_SLACK;
        }
        if (what == 4) {
            return shown.slackThere;
        }
        if (what == 5) {
            return shown.holdThere;
        }
        if (!within(i, 0, shown.length - 1)) {
            return NO_SLACK;
        }
        switch (what) {
            case 0:
                return shown.cells[i];
            case 1:
                return shown.inputs[i];
            case 2:
                return shown.edges[i];
            case 3:
                return shown.lates[i];
            default:
                return NO_SLACK;
        }
    }

    public int common(int a, int b) {
        return net.has(a) && net.has(b) ? race.sharedOf(a, b) : BAD;
    }

    public int least(int most) {
        if (!within(most, 1, MOST_PERIOD)) {
            return BAD;
        }
        refreshRace();
        return race.needed <= most ? race.needed : 0;
    }

    public int fix() {
        for (int changed = 0; changed < MOST_CHANGES; changed++) {
            refreshRace();
            int end = race.leastOf(race.slacks);
            if (end < 0 || race.slacks[end] >= 0 || race.counts[end] >= MOST_PATHS) {
                return changed;
            }
            tracer.trace(end, 0, trial);
            if (!growOneOfTrial()) {
                return changed;
            }
        }
        return MOST_CHANGES;
    }

    public int area() {
        int sum = 0;
        for (int c = 0; c < net.cells; c++) {
            if (net.hasSize(c)) {
                sum += (1 + net.sizes[c]) * net.inputs[c];
            }
        }
        return sum;
    }

    public int count(int what) {
        switch (what) {
            case 0:
                return net.cells;
            case 1:
                return clock.nodes;
            case 2:
                return rules.told;
            case 3:
                return clock.length;
            default:
                return BAD;
        }
    }

    private static boolean within(int v, int least, int most) {
        return v >= least && v <= most;
    }

    private boolean hasOrAny(int c) {
        return c == ANY || net.has(c);
    }

    private void forget() {
        timed = false;
        raced = false;
    }

    private void refreshTiming() {
        if (!timed) {
            timing.run();
            timed = true;
        }
    }

    private void refreshRace() {
        if (raced) {
            return;
        }
        if (!timed) {
            timing.run();
        }
        race.run();
        timed = true;
        raced = true;
    }

    private boolean isTold(int c) {
        if (!net.has(c) || !net.isTarget(c)) {
            return false;
        }
        refreshRace();
        return race.counts[c] > 0;
    }

    /** The last step is the TARGET and is left out; if its cell is the START, too, that one is tried. */
    private boolean growOneOfTrial() {
        int slackBefore = race.leastSlack();
        int holdBefore = race.leastHold();
        for (int i = 0; i < trial.length - 1; i++) {
            int c = trial.cells[i];
            if (net.hasSize(c) && net.sizes[c] < MOST_SIZE) {
                net.sizes[c]++;
                forget();
                refreshRace();
                if (race.isAnyTold() && race.leastSlack() > slackBefore && race.leastHold() >= holdBefore) {
                    return true;
                }
                net.sizes[c]--;
                forget();
            }
        }
        return false;
    }

    /** The cells, and what their inputs take. Wire c * 4 + i is input i of cell c. */
    private static final class Net {
        private int cells;
        private final int[] kinds = new int[MOST_CELLS];
        private final int[] inputs = new int[MOST_CELLS];
        private final int[] tables = new int[MOST_CELLS];
        private final int[] sizes = new int[MOST_CELLS];
        private final int[] extras = new int[MOST_CELLS];
        /** For each wire the cell whose output it takes, or NONE. */
        private final int[] sources = new int[MOST_WIRES];
        /** The wires that take the output of c, in order, stand from firstTaker[c] up to firstTaker[c + 1]. */
        private final int[] takers = new int[MOST_WIRES];
        private final int[] firstTaker = new int[MOST_CELLS + 1];
        /** The cells of KINDS 1 to 3, each behind those whose outputs it takes. */
        private final int[] order = new int[MOST_CELLS];
        private int ordered;
        private final int[] tally = new int[MOST_CELLS];
        private final boolean[] behind = new boolean[MOST_CELLS];

        Net() {
            Arrays.fill(sources, NONE);
        }

        static boolean isGateKind(int kind) {
            return kind > PORT && kind < FLOP;
        }

        boolean has(int c) {
            return c >= 0 && c < cells;
        }

        boolean hasInput(int c, int input) {
            return has(c) && input >= 0 && input < inputs[c];
        }

        boolean hasSize(int c) {
            return kinds[c] != PORT && kinds[c] != END;
        }

        boolean isGate(int c) {
            return isGateKind(kinds[c]);
        }

        boolean isStart(int c) {
            return kinds[c] == PORT || kinds[c] == FLOP;
        }

        boolean isTarget(int c) {
            return kinds[c] == FLOP || kinds[c] == END;
        }

        int addCell(int kind, int inputCount, int table) {
            int c = cells;
            cells++;
            kinds[c] = kind;
            inputs[c] = inputCount;
            tables[c] = table;
            arrange();
            return c;
        }

        int connect(int source, int wire) {
            int was = sources[wire];
            sources[wire] = source;
            arrange();
            return was;
        }

        int loadOf(int c) {
            int sum = extras[c];
            for (int i = firstTaker[c]; i < firstTaker[c + 1]; i++) {
                sum += 1 + sizes[takers[i] / MOST_INPUTS];
            }
            return sum;
        }

        /** There is no ring yet, so one can only come if the signal of `to` already gets to `from`. */
        boolean wouldRing(int from, int to) {
            if (!isGate(from) || !isGate(to)) {
                return false;
            }
            for (int c = 0; c < cells; c++) {
                behind[c] = c == to;
            }
            for (int i = 0; i < ordered; i++) {
                int c = order[i];
                for (int wire = c * MOST_INPUTS; wire < c * MOST_INPUTS + inputs[c]; wire++) {
                    if (sources[wire] >= 0 && behind[sources[wire]]) {
                        behind[c] = true;
                    }
                }
            }
            return behind[from];
        }

        private void arrange() {
            listTakers();
            orderGates();
        }

        private void listTakers() {
            Arrays.fill(tally, 0);
            for (int wire = 0; wire < cells * MOST_INPUTS; wire++) {
                if (sources[wire] >= 0) {
                    tally[sources[wire]]++;
                }
            }
            firstTaker[0] = 0;
            for (int c = 0; c < cells; c++) {
                firstTaker[c + 1] = firstTaker[c] + tally[c];
                tally[c] = firstTaker[c];
            }
            for (int wire = 0; wire < cells * MOST_INPUTS; wire++) {
                int source = sources[wire];
                if (source >= 0) {
                    takers[tally[source]] = wire;
                    tally[source]++;
                }
            }
        }

        private void orderGates() {
            ordered = 0;
            for (int c = 0; c < cells; c++) {
                tally[c] = gatesTakenBy(c);
                if (isGate(c) && tally[c] == 0) {
                    order[ordered] = c;
                    ordered++;
                }
            }
            for (int i = 0; i < ordered && i < MOST_CELLS; i++) {
                int c = order[i];
                for (int k = firstTaker[c]; k < firstTaker[c + 1]; k++) {
                    int taker = takers[k] / MOST_INPUTS;
                    tally[taker]--;
                    if (isGate(taker) && tally[taker] == 0) {
                        order[ordered] = taker;
                        ordered++;
                    }
                }
            }
        }

        private int gatesTakenBy(int c) {
            int sum = 0;
            for (int wire = c * MOST_INPUTS; wire < c * MOST_INPUTS + inputs[c]; wire++) {
                if (sources[wire] >= 0 && isGate(sources[wire])) {
                    sum++;
                }
            }
            return sum;
        }
    }

    /** What is told of the cells at which paths start and end. */
    private static final class Stations {
        private final int[] earlies = new int[MOST_CELLS];
        private final int[] lates = new int[MOST_CELLS];
        private final int[] slopes = new int[MOST_CELLS];
        private final int[] nodes = new int[MOST_CELLS];
        private final int[] setups = new int[MOST_CELLS];
        private final int[] holds = new int[MOST_CELLS];

        Stations() {
            Arrays.fill(nodes, ROOT);
        }
    }

    /** The period, and the tree of nodes with the sums of their delays from the root on. */
    private static final class Clock {
        private int length = 1000;
        private int nodes;
        private final int[] parents = new int[MOST_NODES];
        private final int[] earlySums = new int[MOST_NODES];
        private final int[] lateSums = new int[MOST_NODES];

        boolean hasOrRoot(int n) {
            return n >= ROOT && n < nodes;
        }

        int addNode(int parent, int early, int late) {
            int n = nodes;
            nodes++;
            parents[n] = parent;
            earlySums[n] = earlyOf(parent) + early;
            lateSums[n] = lateOf(parent) + late;
            return n;
        }

        int earlyOf(int n) {
            return n < 0 ? 0 : earlySums[n];
        }

        int lateOf(int n) {
            return n < 0 ? 0 : lateSums[n];
        }

        /** A parent has a lesser number than its node, so the greater of two is never on the other's way. */
        int sharedOf(int a, int b) {
            int one = a;
            int other = b;
            for (int i = 0; i < 2 * MOST_NODES && one != other; i++) {
                if (one > other) {
                    one = parents[one];
                } else {
                    other = parents[other];
                }
            }
            return one < 0 ? 0 : lateSums[one] - earlySums[one];
        }
    }

    /** The EXCEPTIONS. A set of bits tells of which of them the THROUGH is met. */
    private static final class Rules {
        private int told;
        private final int[] periods = new int[MOST_RULES];
        private final int[] froms = new int[MOST_RULES];
        private final int[] throughs = new int[MOST_RULES];
        private final int[] tos = new int[MOST_RULES];
        /** What each cell meets by being on a path. */
        private final int[] bits = new int[MOST_CELLS];

        int addRule(int n, int from, int through, int to) {
            int rule = told;
            told++;
            periods[rule] = n;
            froms[rule] = from;
            throughs[rule] = through;
            tos[rule] = to;
            spreadBits();
            return rule;
        }

        int dropLatest() {
            told--;
            spreadBits();
            return told;
        }

        int masks() {
            return 1 << told;
        }

        /** How many periods a path has; 0 if it does not count. */
        int periodsOf(int start, int end, int met) {
            for (int i = told - 1; i >= 0; i--) {
                boolean isMet = (met >> i & 1) == 1
                        && (froms[i] == ANY || froms[i] == start)
                        && (tos[i] == ANY || tos[i] == end);
                if (isMet) {
                    return periods[i];
                }
            }
            return 1;
        }

        private void spreadBits() {
            for (int c = 0; c < MOST_CELLS; c++) {
                bits[c] = 0;
                for (int i = 0; i < told; i++) {
                    if (throughs[i] == ANY || throughs[i] == c) {
                        bits[c] |= 1 << i;
                    }
                }
            }
        }
    }

    /** The tables and the corners. */
    private static final class Tables {
        private static final int[] LOAD_MARKS = {0, 8, 24, 64};
        private static final int[] SLOPE_MARKS = {0, 16, 64};
        private static final int NEW_NUMBER = 10;

        private final int[] numbers = new int[TABLES * PARTS * ROWS * COLUMNS];
        /** How many numbers each row has. */
        private final int[] lefts = new int[TABLES * PARTS * ROWS];
        private final int[] falls = new int[TABLES];
        private int lateCorner;
        private int earlyCorner;

        Tables() {
            Arrays.fill(numbers, NEW_NUMBER);
            Arrays.fill(lefts, COLUMNS);
        }

        static boolean has(int table) {
            return table >= 0 && table < TABLES;
        }

        static boolean hasRow(int table, int part, int row) {
            return has(table) && part >= 0 && part < PARTS && row >= 0 && row < ROWS;
        }

        static int rowPlace(int table, int part, int row) {
            return (table * PARTS + part) * ROWS + row;
        }

        /** A row ends once, so the numbers up to this one are there if this one is, and fail for the same reason. */
        int whyAbsent(int place, int column) {
            if (lefts[place] == 0) {
                return MISSING;
            }
            return column < lefts[place] ? 0 : ENDED;
        }

        int cutRow(int place, int left) {
            int was = lefts[place];
            for (int column = was; column < left; column++) {
                numbers[place * COLUMNS + column] = NEW_NUMBER;
            }
            lefts[place] = left;
            return was;
        }

        /** The value in a part of a table, or why the look-up fails (less than 0). */
        int lookUp(int table, int part, int load, int slope, boolean up) {
            int x = Math.min(load, LOAD_MARKS[ROWS - 1]);
            int y = Math.min(slope, SLOPE_MARKS[COLUMNS - 1]);
            int row = lastNotAbove(LOAD_MARKS, x);
            int column = lastNotAbove(SLOPE_MARKS, y);
            int beyondRow = x - LOAD_MARKS[row];
            int beyondColumn = y - SLOPE_MARKS[column];
            int place = rowPlace(table, part, row);
            int lastColumn = beyondColumn > 0 ? column + 1 : column;
            int why = whyAbsent(place, lastColumn);
            if (why == 0 && beyondRow > 0) {
                why = whyAbsent(place + 1, lastColumn);
            }
            if (why != 0) {
                return why;
            }
            int height = beyondRow > 0 ? LOAD_MARKS[row + 1] - LOAD_MARKS[row] : 1;
            int width = beyondColumn > 0 ? SLOPE_MARKS[column + 1] - SLOPE_MARKS[column] : 1;
            int sum = (height - beyondRow) * weighRow(place, column, beyondColumn, width);
            if (beyondRow > 0) {
                sum += beyondRow * weighRow(place + 1, column, beyondColumn, width);
            }
            int whole = height * width;
            return up ? (sum + whole - 1) / whole : sum / whole;
        }

        private static int lastNotAbove(int[] marks, int v) {
            for (int i = marks.length - 1; i > 0; i--) {
                if (marks[i] <= v) {
                    return i;
                }
            }
            return 0;
        }

        /** The value between two numbers of a row, times the width between their marks. */
        private int weighRow(int place, int column, int beyond, int width) {
            int at = place * COLUMNS + column;
            int sum = numbers[at] * (width - beyond);
            return beyond > 0 ? sum + numbers[at + 1] * beyond : sum;
        }
    }

    /** The arcs, slopes and arrivals of all outputs. Place c * 2 + e is the output of cell c at EDGE e. */
    private static final class Timing {
        private final Net net;
        private final Stations stations;
        private final Clock clock;
        private final Tables tables;
        private final boolean[] reached = new boolean[MOST_CELLS];
        /** Why an output is OPEN: MISSING, ENDED, 1 (by an input), or 0: it is not. */
        private final int[] open = new int[MOST_CELLS];
        /** The delays of the arc from wire w to EDGE e of its cell's output, at w * 2 + e. */
        private final int[] lateDelays = new int[MOST_WIRES * 2];
        private final int[] earlyDelays = new int[MOST_WIRES * 2];
        private final int[] lateSlopes = new int[MOST_CELLS * 2];
        private final int[] earlySlopes = new int[MOST_CELLS * 2];
        private final int[] lateArrivals = new int[MOST_CELLS * 2];
        private final int[] earlyArrivals = new int[MOST_CELLS * 2];

        Timing(Net net, Stations stations, Clock clock, Tables tables) {
            this.net = net;
            this.stations = stations;
            this.clock = clock;
            this.tables = tables;
        }

        void run() {
            for (int c = 0; c < net.cells; c++) {
                reached[c] = net.isStart(c);
                open[c] = 0;
                if (net.kinds[c] == PORT) {
                    timePort(c);
                } else if (net.kinds[c] == FLOP) {
                    timeFlop(c);
                }
            }
            for (int i = 0; i < net.ordered; i++) {
                timeGate(net.order[i]);
            }
        }

        boolean isInputReached(int wire) {
            int source = net.sources[wire];
            return source >= 0 && reached[source];
        }

        boolean isInputOpen(int wire) {
            int source = net.sources[wire];
            return source >= 0 && open[source] != 0;
        }

        boolean isReached(int c) {
            return net.kinds[c] == END ? isInputReached(c * MOST_INPUTS) : reached[c];
        }

        int whyOpen(int c) {
            if (net.kinds[c] == END) {
                return isInputOpen(c * MOST_INPUTS) ? 1 : 0;
            }
            return open[c];
        }

        private void timePort(int c) {
            for (int at = c * 2; at < c * 2 + 2; at++) {
                lateSlopes[at] = stations.slopes[c];
                earlySlopes[at] = stations.slopes[c];
                lateArrivals[at] = stations.lates[c];
                earlyArrivals[at] = stations.earlies[c];
            }
        }

        private void timeFlop(int c) {
            int wire = c * MOST_INPUTS;
            int load = net.loadOf(c);
            int node = stations.nodes[c];
            for (int edge = 0; edge < 2 && open[c] == 0; edge++) {
                clearPlace(c * 2 + edge);
                open[c] = timeArc(wire, edge, load, 0, 0);
                if (open[c] == 0) {
                    arrive(wire, edge, clock.lateOf(node), clock.earlyOf(node));
                }
            }
        }

        private void timeGate(int c) {
            int first = c * MOST_INPUTS;
            int load = net.loadOf(c);
            takeInputs(c);
            for (int edge = 0; edge < 2; edge++) {
                int inputEdge = net.kinds[c] == TURNING ? 1 - edge : edge;
                clearPlace(c * 2 + edge);
                for (int wire = first; wire < first + net.inputs[c] && open[c] == 0; wire++) {
                    if (isInputReached(wire)) {
                        int from = net.sources[wire] * 2 + inputEdge;
                        open[c] = timeArc(wire, edge, load, lateSlopes[from], earlySlopes[from]);
                        if (open[c] == 0) {
                            arrive(wire, edge, lateArrivals[from], earlyArrivals[from]);
                        }
                    }
                }
            }
        }

        private void takeInputs(int c) {
            for (int wire = c * MOST_INPUTS; wire < c * MOST_INPUTS + net.inputs[c]; wire++) {
                if (isInputReached(wire)) {
                    reached[c] = true;
                }
                if (isInputOpen(wire)) {
                    open[c] = 1;
                }
            }
        }

        private void clearPlace(int at) {
            lateSlopes[at] = 0;
            earlySlopes[at] = FAR;
            lateArrivals[at] = 0;
            earlyArrivals[at] = FAR;
        }

        /** 0, or why a look-up of the arc fails. */
        private int timeArc(int wire, int edge, int load, int lateIn, int earlyIn) {
            int c = wire / MOST_INPUTS;
            int table = net.tables[c];
            int strength = 1 + net.sizes[c];
            int most = (load + strength - 1) / strength;
            int least = load / strength;
            int lateDelay = tables.lookUp(table, DELAYS, most, lateIn, true);
            if (lateDelay < 0) {
                return lateDelay;
            }
            int lateSlope = tables.lookUp(table, SLOPES, most, lateIn, true);
            if (lateSlope < 0) {
                return lateSlope;
            }
            int earlyDelay = tables.lookUp(table, DELAYS, least, earlyIn, false);
            if (earlyDelay < 0) {
                return earlyDelay;
            }
            int earlySlope = tables.lookUp(table, SLOPES, least, earlyIn, false);
            if (earlySlope < 0) {
                return earlySlope;
            }
            int more = edge == 1 ? tables.falls[table] : 0;
            lateDelays[wire * 2 + edge] = (lateDelay * (1000 + tables.lateCorner) + 999) / 1000 + more;
            earlyDelays[wire * 2 + edge] = earlyDelay * (1000 - tables.earlyCorner) / 1000 + more;
            int at = c * 2 + edge;
            lateSlopes[at] = Math.max(lateSlopes[at], lateSlope);
            earlySlopes[at] = Math.min(earlySlopes[at], earlySlope);
            return 0;
        }

        private void arrive(int wire, int edge, int late, int early) {
            int at = wire / MOST_INPUTS * 2 + edge;
            lateArrivals[at] = Math.max(lateArrivals[at], late + lateDelays[wire * 2 + edge]);
            earlyArrivals[at] = Math.min(earlyArrivals[at], early + earlyDelays[wire * 2 + edge]);
        }
    }

    /**
     * The slacks of all TARGETS. Paths can be too many to walk one by one, so those from one START that
     * are at the same output and EDGE and have met the same THROUGHS are held together, at one place.
     */
    private static final class Race {
        private final Net net;
        private final Stations stations;
        private final Clock clock;
        private final Rules rules;
        private final Timing timing;
        private int masks = 1;
        private final int[] ways = new int[MOST_CELLS * 2 * MOST_MASKS];
        private final int[] lates = new int[MOST_CELLS * 2 * MOST_MASKS];
        private final int[] earlies = new int[MOST_CELLS * 2 * MOST_MASKS];
        private final int[] counts = new int[MOST_CELLS];
        private final int[] slacks = new int[MOST_CELLS];
        private final int[] holdSlacks = new int[MOST_CELLS];
        /** The least period that leaves no slack below 0. */
        private int needed = 1;

        Race(Net net, Stations stations, Clock clock, Rules rules, Timing timing) {
            this.net = net;
            this.stations = stations;
            this.clock = clock;
            this.rules = rules;
            this.timing = timing;
        }

        void run() {
            masks = rules.masks();
            needed = 1;
            Arrays.fill(counts, 0);
            Arrays.fill(slacks, NO_SLACK);
            Arrays.fill(holdSlacks, NO_SLACK);
            for (int start = 0; start < net.cells; start++) {
                if (net.isStart(start) && timing.open[start] == 0) {
                    spreadFrom(start);
                    for (int end = 0; end < net.cells; end++) {
                        if (net.isTarget(end) && isSpreadTo(net.sources[end * MOST_INPUTS])) {
                            finish(start, end);
                        }
                    }
                }
            }
        }

        /** The cell with the least of these slacks that is TOLD, or NONE. */
        int leastOf(int[] values) {
            int best = NONE;
            for (int c = 0; c < net.cells; c++) {
                if (counts[c] > 0 && (best < 0 || values[c] < values[best])) {
                    best = c;
                }
            }
            return best;
        }

        boolean isAnyTold() {
            return leastOf(slacks) >= 0;
        }

        int leastSlack() {
            int c = leastOf(slacks);
            return c < 0 ? NO_SLACK : slacks[c];
        }

        int leastHold() {
            int c = leastOf(holdSlacks);
            return c < 0 ? NO_SLACK : holdSlacks[c];
        }

        int sharedOf(int start, int end) {
            if (net.kinds[start] != FLOP || net.kinds[end] != FLOP) {
                return 0;
            }
            return clock.sharedOf(stations.nodes[start], stations.nodes[end]);
        }

        /** The slack of a path but for its periods and its arrival. */
        int slackRoom(int start, int end) {
            return clock.earlyOf(stations.nodes[end]) - stations.setups[end] + sharedOf(start, end);
        }

        /** The hold slack of a path but for its arrival. */
        int holdRoom(int start, int end) {
            return sharedOf(start, end) - clock.lateOf(stations.nodes[end]) - stations.holds[end];
        }

        private void spreadFrom(int start) {
            for (int at = 0; at < net.cells * 2 * masks; at++) {
                ways[at] = 0;
            }
            for (int at = start * 2; at < start * 2 + 2; at++) {
                merge(at * masks + rules.bits[start], 1, timing.lateArrivals[at], timing.earlyArrivals[at]);
            }
            for (int i = 0; i < net.ordered; i++) {
                int c = net.order[i];
                for (int wire = c * MOST_INPUTS; wire < c * MOST_INPUTS + net.inputs[c]; wire++) {
                    if (timing.open[c] == 0 && isSpreadTo(net.sources[wire])) {
                        passArc(wire, 0);
                        passArc(wire, 1);
                    }
                }
            }
        }

        /** From a START at both EDGES the same ways lead on, so the one EDGE of an output tells of both. */
        private boolean isSpreadTo(int source) {
            if (source < 0) {
                return false;
            }
            for (int met = 0; met < masks; met++) {
                if (ways[source * 2 * masks + met] > 0) {
                    return true;
                }
            }
            return false;
        }

        private void passArc(int wire, int edge) {
            int c = wire / MOST_INPUTS;
            int from = (net.sources[wire] * 2 + (net.kinds[c] == TURNING ? 1 - edge : edge)) * masks;
            int to = (c * 2 + edge) * masks;
            int late = timing.lateDelays[wire * 2 + edge];
            int early = timing.earlyDelays[wire * 2 + edge];
            for (int met = 0; met < masks; met++) {
                int at = from + met;
                if (ways[at] > 0) {
                    merge(to + (met | rules.bits[c]), ways[at], lates[at] + late, earlies[at] + early);
                }
            }
        }

        private void merge(int at, int more, int late, int early) {
            lates[at] = ways[at] == 0 ? late : Math.max(lates[at], late);
            earlies[at] = ways[at] == 0 ? early : Math.min(earlies[at], early);
            ways[at] = Math.min(MOST_PATHS, ways[at] + more);
        }

        private void finish(int start, int end) {
            int from = net.sources[end * MOST_INPUTS] * 2 * masks;
            int room = slackRoom(start, end);
            int roomForHold = holdRoom(start, end);
            for (int i = 0; i < 2 * masks; i++) {
                int at = from + i;
                int n = rules.periodsOf(start, end, i % masks | rules.bits[end]);
                if (ways[at] > 0 && n > 0) {
                    int bare = room - lates[at];
                    counts[end] = Math.min(MOST_PATHS, counts[end] + ways[at]);
                    slacks[end] = Math.min(slacks[end], n * clock.length + bare);
                    holdSlacks[end] = Math.min(holdSlacks[end], earlies[at] + roomForHold);
                    needed = Math.max(needed, bare < 0 ? (n - 1 - bare) / n : 1);
                }
            }
        }
    }

    /** A path, cell by cell. */
    private static final class Trail {
        private int length;
        private final int[] cells = new int[MOST_STEPS];
        private final int[] inputs = new int[MOST_STEPS];
        private final int[] edges = new int[MOST_STEPS];
        private final int[] lates = new int[MOST_STEPS];
        private int slackThere;
        private int holdThere;

        void putStep(int cell, int input, int edge, int late) {
            if (length < MOST_STEPS) {
                cells[length] = cell;
                inputs[length] = input;
                edges[length] = edge;
                lates[length] = late;
                length++;
            }
        }
    }

    /**
     * Finds single paths to a TARGET that is not OPEN and has less than 1000 of them. They are numbered
     * by START, EDGE, then cells and inputs; how many ways lead on from each cell tells which is which.
     */
    private static final class Tracer {
        private static final int[] GAPS = {701, 301, 132, 57, 23, 10, 4, 1};
        /** A key is a slack and, in its lowest bits, a path's number, which settles ties. */
        private static final int NUMBER_BITS = 10;

        private final Net net;
        private final Clock clock;
        private final Rules rules;
        private final Timing timing;
        private final Race race;
        private int masks = 1;
        private int start;
        private int end;
        private int skip;
        private final int[] onward = new int[MOST_CELLS * MOST_MASKS];
        private final long[] keys = new long[MOST_PATHS];
        private int keyed;

        Tracer(Net net, Clock clock, Rules rules, Timing timing, Race race) {
            this.net = net;
            this.clock = clock;
            this.rules = rules;
            this.timing = timing;
            this.race = race;
        }

        /** Lays path k in the ORDER of a TARGET down in a trail. */
        void trace(int target, int k, Trail trail) {
            masks = rules.masks();
            end = target;
            keyAll(trail);
            sortKeys();
            if (k >= 0 && k < keyed) {
                layNumber((int) (keys[k] & (1L << NUMBER_BITS) - 1), trail);
            }
        }

        private void keyAll(Trail trail) {
            keyed = 0;
            for (int c = 0; c < net.cells; c++) {
                int found = net.isStart(c) ? aimFrom(c) : 0;
                for (int i = 0; i < 2 * found && keyed < MOST_PATHS; i++) {
                    lay(i / found, i % found, trail);
                    keys[keyed] = ((long) trail.slackThere << NUMBER_BITS) + keyed;
                    keyed++;
                }
            }
        }

        private void layNumber(int number, Trail trail) {
            int rest = number;
            for (int c = 0; c < net.cells; c++) {
                int found = net.isStart(c) ? aimFrom(c) : 0;
                if (rest < 2 * found) {
                    lay(rest / found, rest % found, trail);
                    return;
                }
                rest -= 2 * found;
            }
        }

        private void sortKeys() {
            for (int gap : GAPS) {
                for (int i = gap; i < keyed; i++) {
                    long key = keys[i];
                    int at = i;
                    for (; at >= gap && keys[at - gap] > key; at -= gap) {
                        keys[at] = keys[at - gap];
                    }
                    keys[at] = key;
                }
            }
        }

        /** How many paths that count go from a START at one EDGE to the TARGET. */
        private int aimFrom(int from) {
            start = from;
            for (int i = net.ordered - 1; i >= 0; i--) {
                for (int met = 0; met < masks; met++) {
                    onward[net.order[i] * masks + met] = sumOnward(net.order[i], met);
                }
            }
            return sumOnward(start, rules.bits[start]);
        }

        private int sumOnward(int c, int met) {
            int sum = 0;
            for (int i = net.firstTaker[c]; i < net.firstTaker[c + 1]; i++) {
                sum = Math.min(MOST_PATHS, sum + onwardBy(net.takers[i], met));
            }
            return sum;
        }

        private int onwardBy(int wire, int met) {
            int taker = wire / MOST_INPUTS;
            int then = met | rules.bits[taker];
            if (taker == end) {
                return rules.periodsOf(start, end, then) > 0 ? 1 : 0;
            }
            return net.isGate(taker) ? onward[taker * masks + then] : 0;
        }

        private void lay(int startEdge, int number, Trail trail) {
            int edge = startEdge;
            int late = timing.lateArrivals[start * 2 + edge];
            int early = timing.earlyArrivals[start * 2 + edge];
            int met = rules.bits[start];
            int wire = NONE;
            skip = number;
            trail.length = 0;
            trail.putStep(start, -1, edge, late);
            for (int i = 0; i < MOST_STEPS; i++) {
                wire = chooseWire(wire < 0 ? start : wire / MOST_INPUTS, met);
                if (wire < 0) {
                    return;
                }
                int c = wire / MOST_INPUTS;
                met |= rules.bits[c];
                if (c == end) {
                    break;
                }
                edge = net.kinds[c] == TURNING ? 1 - edge : edge;
                late += timing.lateDelays[wire * 2 + edge];
                early += timing.earlyDelays[wire * 2 + edge];
                trail.putStep(c, wire % MOST_INPUTS, edge, late);
            }
            trail.putStep(end, 0, edge, late);
            trail.slackThere = rules.periodsOf(start, end, met) * clock.length + race.slackRoom(start, end) - late;
            trail.holdThere = early + race.holdRoom(start, end);
        }

        /** The wire by which the path goes on that has `skip` others ahead of it. */
        private int chooseWire(int c, int met) {
            for (int i = net.firstTaker[c]; i < net.firstTaker[c + 1]; i++) {
                int found = onwardBy(net.takers[i], met);
                if (skip < found) {
                    return net.takers[i];
                }
                skip -= found;
            }
            return NONE;
        }
    }
}
