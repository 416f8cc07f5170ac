import java.math.BigInteger;
import java.util.ArrayList;
import java.util.HashMap;
import java.util.List;
import java.util.Map;

/**
 * A slow and literal reading of the document, for nets with few paths: it walks every path, keeps nothing
 * from call to call, and throws TooMany where there are too many paths to walk.
 */
final class PlainHouse {
    static final class TooMany extends RuntimeException {
        private static final long serialVersionUID = 1L;
    }

    private static final int MOST_WALKED = 6000;

    private static final class Cell {
        int kind;
        int[] takes;
        int table;
        int size;
        int extra;
        int early;
        int late;
        int slope;
        int node = -1;
        int setup;
        int hold;

        boolean passes() {
            return kind >= 1 && kind <= 3;
        }

        boolean starts() {
            return kind == 0 || kind == 4;
        }

        boolean ends() {
            return kind == 4 || kind == 5;
        }
    }

    private record Except(int n, int from, int through, int to) {
    }

    private record Node(int parent, int early, int late) {
    }

    /** One arc at one EDGE of the output; why is 0 if no look-up fails. */
    private record Arc(int why, int lateDelay, int lateSlope, int earlyDelay, int earlySlope) {
    }

    private record Step(int cell, int input, int edge, int late) {
    }

    private record Way(List<Step> steps, int slack, int hold) {
        int start() {
            return steps.get(0).cell();
        }
    }

    private final List<Cell> cells = new ArrayList<>();
    private final List<Node> nodes = new ArrayList<>();
    private final List<Except> excepts = new ArrayList<>();
    /** Rows hold the numbers that are there: none, if a row is missing. */
    private final List<List<List<List<Integer>>>> tables = new ArrayList<>();
    private final int[] falls = new int[8];
    private int lateCorner;
    private int earlyCorner;
    private int period = 1000;
    private Way shown;
    private final Map<String, Arc> arcs = new HashMap<>();
    private final Map<Integer, List<Way>> walked = new HashMap<>();

    PlainHouse() {
        for (int t = 0; t < 8; t++) {
            tables.add(new ArrayList<>());
            for (int p = 0; p < 2; p++) {
                tables.get(t).add(new ArrayList<>());
                for (int r = 0; r < 4; r++) {
                    tables.get(t).get(p).add(new ArrayList<>(List.of(10, 10, 10)));
                }
            }
        }
    }

    private boolean no(int c) {
        return c < 0 || c >= cells.size();
    }

    private static boolean out(int v, int a, int b) {
        return v < a || v > b;
    }

    private void changed() {
        arcs.clear();
        walked.clear();
    }

    int make(int kind, int inputs, int table) {
        changed();
        if (out(kind, 0, 5) || out(table, 0, 7) || ((kind == 1 || kind == 2) && out(inputs, 1, 4))) {
            return -1;
        }
        if (cells.size() == 50) {
            return -3;
        }
        Cell cell = new Cell();
        cell.kind = kind;
        cell.table = table;
        cell.takes = new int[kind == 0 ? 0 : kind == 1 || kind == 2 ? inputs : 1];
        java.util.Arrays.fill(cell.takes, -5);
        cells.add(cell);
        return cells.size() - 1;
    }

    int wire(int from, int to, int input) {
        changed();
        if ((from != -1 && no(from)) || no(to) || out(input, 0, cells.get(to).takes.length - 1)) {
            return -1;
        }
        if (from != -1 && cells.get(from).kind == 5) {
            return -2;
        }
        int was = cells.get(to).takes[input];
        cells.get(to).takes[input] = from == -1 ? -5 : from;
        for (int c = 0; c < cells.size(); c++) {
            if (comesTo(c, c, 0)) {
                cells.get(to).takes[input] = was;
                return -4;
            }
        }
        return was;
    }

    /** Whether the signal of some cell that c takes comes from goal, through cells of KINDS 1 to 3. */
    private boolean comesTo(int c, int goal, int depth) {
        if (!cells.get(c).passes() || depth > cells.size()) {
            return false;
        }
        for (int source : cells.get(c).takes) {
            if (source >= 0 && (source == goal && cells.get(source).passes() || comesTo(source, goal, depth + 1))) {
                return true;
            }
        }
        return false;
    }

    int extra(int c, int v) {
        changed();
        if (no(c) || out(v, 0, 1000)) {
            return -1;
        }
        if (cells.get(c).kind == 5) {
            return -2;
        }
        int was = cells.get(c).extra;
        cells.get(c).extra = v;
        return was;
    }

    int size(int c, int z) {
        changed();
        if (no(c) || out(z, 0, 2)) {
            return -1;
        }
        if (cells.get(c).kind == 0 || cells.get(c).kind == 5) {
            return -2;
        }
        int was = cells.get(c).size;
        cells.get(c).size = z;
        return was;
    }

    int port(int c, int early, int late, int slope) {
        changed();
        if (no(c) || out(early, 0, 100000) || out(late, 0, 100000) || out(slope, 0, 100000)) {
            return -1;
        }
        if (cells.get(c).kind != 0) {
            return -2;
        }
        cells.get(c).early = early;
        cells.get(c).late = late;
        cells.get(c).slope = slope;
        return 0;
    }

    int target(int c, int node, int setup, int hold) {
        changed();
        if (no(c) || out(node, -1, nodes.size() - 1) || out(setup, -10000, 10000) || out(hold, -10000, 10000)
                || (cells.get(c).kind == 5 && node != -1)) {
            return -1;
        }
        if (!cells.get(c).ends()) {
            return -2;
        }
        cells.get(c).node = node;
        cells.get(c).setup = setup;
        cells.get(c).hold = hold;
        return 0;
    }

    int entry(int table, int part, int row, int column, int v) {
        changed();
        if (out(table, 0, 7) || out(part, 0, 1) || out(row, 0, 3) || out(column, 0, 2) || out(v, 0, 3000)) {
            return -1;
        }
        List<Integer> numbers = tables.get(table).get(part).get(row);
        if (numbers.isEmpty()) {
            return -11;
        }
        return column >= numbers.size() ? -12 : numbers.set(column, v);
    }

    int tear(int table, int part, int row, int left) {
        changed();
        if (out(table, 0, 7) || out(part, 0, 1) || out(row, 0, 3) || out(left, 0, 3)) {
            return -1;
        }
        List<Integer> numbers = tables.get(table).get(part).get(row);
        int was = numbers.size();
        while (numbers.size() > left) {
            numbers.remove(numbers.size() - 1);
        }
        while (numbers.size() < left) {
            numbers.add(10);
        }
        return was;
    }

    int fall(int table, int v) {
        changed();
        if (out(table, 0, 7) || out(v, 0, 1000)) {
            return -1;
        }
        int was = falls[table];
        falls[table] = v;
        return was;
    }

    int corner(int late, int early) {
        changed();
        if (out(late, 0, 500) || out(early, 0, 500)) {
            return -1;
        }
        lateCorner = late;
        earlyCorner = early;
        return 0;
    }

    int period(int p) {
        changed();
        if (out(p, 1, 1000000)) {
            return -1;
        }
        int was = period;
        period = p;
        return was;
    }

    int node(int parent, int early, int late) {
        changed();
        if (out(parent, -1, nodes.size() - 1) || !(0 <= early && early <= late && late <= 100000)) {
            return -1;
        }
        if (nodes.size() == 20) {
            return -3;
        }
        nodes.add(new Node(parent, early, late));
        return nodes.size() - 1;
    }

    int except(int n, int from, int through, int to) {
        changed();
        if ((n != 0 && n != 2 && n != 3 && n != 4) || (from != -1 && no(from)) || (through != -1 && no(through))
                || (to != -1 && no(to)) || (from == -1 && through == -1 && to == -1)) {
            return -1;
        }
        if (excepts.size() == 4) {
            return -3;
        }
        excepts.add(new Except(n, from, through, to));
        return excepts.size() - 1;
    }

    int unexcept() {
        changed();
        if (excepts.isEmpty()) {
            return -1;
        }
        excepts.remove(excepts.size() - 1);
        return excepts.size();
    }

    // ---- arcs

    private int load(int c) {
        if (cells.get(c).kind == 5) {
            return 0;
        }
        int sum = cells.get(c).extra;
        for (Cell cell : cells) {
            for (int source : cell.takes) {
                sum += source == c ? 1 + (cell.kind == 5 ? 0 : cell.size) : 0;
            }
        }
        return sum;
    }

    private boolean reached(int c) {
        if (cells.get(c).starts()) {
            return true;
        }
        for (int source : cells.get(c).takes) {
            if (source >= 0 && reached(source)) {
                return true;
            }
        }
        return false;
    }

    private static final int[] LOADS = {0, 8, 24, 64};
    private static final int[] SLOPES = {0, 16, 64};

    private int lookUp(int table, int part, int load, int slope, boolean up) {
        int x = load > 64 ? 64 : load;
        int y = slope > 64 ? 64 : slope;
        int r = 0;
        while (r + 1 < 4 && LOADS[r + 1] <= x) {
            r++;
        }
        int k = 0;
        while (k + 1 < 3 && SLOPES[k + 1] <= y) {
            k++;
        }
        // Over the common denominator of all steps, 8 * 16 * 40 * 16 * 48.
        BigInteger whole = BigInteger.valueOf(8L * 16 * 40 * 16 * 48);
        BigInteger sum = BigInteger.ZERO;
        for (int row = r; row <= (LOADS[r] < x ? r + 1 : r); row++) {
            for (int column = k; column <= (SLOPES[k] < y ? k + 1 : k); column++) {
                List<Integer> numbers = tables.get(table).get(part).get(row);
                if (numbers.isEmpty()) {
                    return -11;
                }
                if (column >= numbers.size()) {
                    return -12;
                }
                BigInteger share = whole.multiply(BigInteger.valueOf(numbers.get(column)));
                if (LOADS[r] < x) {
                    int span = LOADS[r + 1] - LOADS[r];
                    int near = row == r ? LOADS[r + 1] - x : x - LOADS[r];
                    share = share.multiply(BigInteger.valueOf(near)).divide(BigInteger.valueOf(span));
                }
                if (SLOPES[k] < y) {
                    int span = SLOPES[k + 1] - SLOPES[k];
                    int near = column == k ? SLOPES[k + 1] - y : y - SLOPES[k];
                    share = share.multiply(BigInteger.valueOf(near)).divide(BigInteger.valueOf(span));
                }
                sum = sum.add(share);
            }
        }
        BigInteger[] parts = sum.divideAndRemainder(whole);
        return parts[0].intValue() + (up && parts[1].signum() > 0 ? 1 : 0);
    }

    private Arc arc(int c, int input, int edge) {
        String key = c + " " + input + " " + edge;
        Arc known = arcs.get(key);
        if (known == null) {
            known = workOut(c, input, edge);
            arcs.put(key, known);
        }
        return known;
    }

    private Arc workOut(int c, int input, int edge) {
        Cell cell = cells.get(c);
        int inputEdge = cell.kind == 2 ? 1 - edge : edge;
        int lateIn = cell.kind == 4 ? 0 : slope(cell.takes[input], inputEdge, true);
        int earlyIn = cell.kind == 4 ? 0 : slope(cell.takes[input], inputEdge, false);
        int up = (int) Math.ceil((double) load(c) / (1 + cell.size));
        int down = (int) Math.floor((double) load(c) / (1 + cell.size));
        int[] found = {lookUp(cell.table, 0, up, lateIn, true), lookUp(cell.table, 1, up, lateIn, true),
            lookUp(cell.table, 0, down, earlyIn, false), lookUp(cell.table, 1, down, earlyIn, false)};
        for (int v : found) {
            if (v < 0) {
                return new Arc(v, 0, 0, 0, 0);
            }
        }
        int more = edge == 1 ? falls[cell.table] : 0;
        int late = found[0] * (1000 + lateCorner);
        late = late / 1000 + (late % 1000 > 0 ? 1 : 0) + more;
        int early = found[2] * (1000 - earlyCorner) / 1000 + more;
        return new Arc(0, late, found[1], early, found[3]);
    }

    private int slope(int c, int edge, boolean late) {
        Cell cell = cells.get(c);
        if (cell.kind == 0) {
            return cell.slope;
        }
        int best = -1;
        for (int i = 0; i < cell.takes.length; i++) {
            if (cell.kind == 4 || (cell.takes[i] >= 0 && reached(cell.takes[i]))) {
                int v = late ? arc(c, i, edge).lateSlope() : arc(c, i, edge).earlySlope();
                best = best < 0 ? v : late ? Math.max(best, v) : Math.min(best, v);
            }
        }
        return best;
    }

    private int whyOpen(int c) {
        Cell cell = cells.get(c);
        if (cell.kind == 0) {
            return 0;
        }
        if (cell.kind != 4) {
            for (int source : cell.takes) {
                if (source >= 0 && whyOpen(source) != 0) {
                    return 1;
                }
            }
            if (cell.kind == 5) {
                return 0;
            }
        }
        for (int edge = 0; edge < 2; edge++) {
            for (int i = 0; i < cell.takes.length; i++) {
                if (cell.kind == 4 || (cell.takes[i] >= 0 && reached(cell.takes[i]))) {
                    if (arc(c, i, edge).why() != 0) {
                        return arc(c, i, edge).why();
                    }
                }
            }
        }
        return 0;
    }

    // ---- paths

    private int clockOf(int node, boolean late) {
        int sum = 0;
        for (int n = node; n >= 0; n = nodes.get(n).parent()) {
            sum += late ? nodes.get(n).late() : nodes.get(n).early();
        }
        return sum;
    }

    int common(int a, int b) {
        if (no(a) || no(b)) {
            return -1;
        }
        int sum = 0;
        if (cells.get(a).kind == 4 && cells.get(b).kind == 4) {
            for (int n = cells.get(a).node; n >= 0; n = nodes.get(n).parent()) {
                for (int m = cells.get(b).node; m >= 0; m = nodes.get(m).parent()) {
                    sum += n == m ? nodes.get(n).late() - nodes.get(n).early() : 0;
                }
            }
        }
        return sum;
    }

    private int lateStart(int c, int edge) {
        Cell cell = cells.get(c);
        return cell.kind == 0 ? cell.late : clockOf(cell.node, true) + arc(c, 0, edge).lateDelay();
    }

    private int earlyStart(int c, int edge) {
        Cell cell = cells.get(c);
        return cell.kind == 0 ? cell.early : clockOf(cell.node, false) + arc(c, 0, edge).earlyDelay();
    }

    /** All paths to a TARGET that count, in their ORDER. */
    private List<Way> ways(int target) {
        List<Way> known = walked.get(target);
        if (known == null) {
            known = new ArrayList<>();
            int[] seen = {0};
            for (int c = 0; c < cells.size(); c++) {
                for (int edge = 0; edge < 2; edge++) {
                    if (cells.get(c).starts() && whyOpen(c) == 0) {
                        List<Step> steps = new ArrayList<>();
                        steps.add(new Step(c, -1, edge, lateStart(c, edge)));
                        walk(steps, earlyStart(c, edge), target, known, seen);
                    }
                }
            }
            known.sort(PlainHouse::compare);
            walked.put(target, known);
        }
        return known;
    }

    private void walk(List<Step> steps, int early, int target, List<Way> found, int[] seen) {
        if (++seen[0] > MOST_WALKED) {
            throw new TooMany();
        }
        Step last = steps.get(steps.size() - 1);
        for (int d = cells.size() - 1; d >= 0; d--) {
            Cell next = cells.get(d);
            for (int i = next.takes.length - 1; i >= 0; i--) {
                if (next.takes[i] != last.cell()) {
                    continue;
                }
                if (d == target) {
                    steps.add(new Step(d, i, last.edge(), last.late()));
                    finish(steps, early, found);
                    steps.remove(steps.size() - 1);
                } else if (next.passes() && whyOpen(d) == 0) {
                    int edge = next.kind == 2 ? 1 - last.edge() : last.edge();
                    steps.add(new Step(d, i, edge, last.late() + arc(d, i, edge).lateDelay()));
                    walk(steps, early + arc(d, i, edge).earlyDelay(), target, found, seen);
                    steps.remove(steps.size() - 1);
                }
            }
        }
    }

    private void finish(List<Step> steps, int early, List<Way> found) {
        int start = steps.get(0).cell();
        Step last = steps.get(steps.size() - 1);
        Cell end = cells.get(last.cell());
        int n = 1;
        for (Except e : excepts) {
            boolean met = e.from() == -1 || e.from() == start;
            met &= e.to() == -1 || e.to() == last.cell();
            met &= e.through() == -1 || steps.stream().anyMatch(s -> s.cell() == e.through());
            n = met ? e.n() : n;
        }
        if (n == 0) {
            return;
        }
        int common = common(start, last.cell());
        int slack = n * period + clockOf(end.node, false) - end.setup + common - last.late();
        int hold = early - clockOf(end.node, true) - end.hold + common;
        found.add(new Way(new ArrayList<>(steps), slack, hold));
    }

    private static int compare(Way a, Way b) {
        if (a.slack() != b.slack()) {
            return Integer.compare(a.slack(), b.slack());
        }
        if (a.start() != b.start()) {
            return Integer.compare(a.start(), b.start());
        }
        if (a.steps().get(0).edge() != b.steps().get(0).edge()) {
            return Integer.compare(a.steps().get(0).edge(), b.steps().get(0).edge());
        }
        for (int i = 0; i < Math.min(a.steps().size(), b.steps().size()); i++) {
            Step s = a.steps().get(i);
            Step t = b.steps().get(i);
            if (s.cell() != t.cell()) {
                return Integer.compare(s.cell(), t.cell());
            }
            if (s.input() != t.input()) {
                return Integer.compare(s.input(), t.input());
            }
        }
        return 0;
    }

    // ---- what is told

    int about(int c, int what) {
        if (no(c)) {
            return -1;
        }
        Cell cell = cells.get(c);
        return switch (what) {
            case 0 -> cell.kind;
            case 1 -> cell.takes.length;
            case 2 -> cell.size;
            case 3 -> load(c);
            case 4 -> reached(c) ? 1 : 0;
            case 5 -> whyOpen(c);
            default -> -1;
        };
    }

    int takes(int c, int input) {
        return no(c) || out(input, 0, cells.get(c).takes.length - 1) ? -1 : cells.get(c).takes[input];
    }

    int arrival(int c, int edge, int what) {
        if (no(c) || out(edge, 0, 1) || out(what, 0, 3) || cells.get(c).kind == 5 || !reached(c) || whyOpen(c) != 0) {
            return -1000000;
        }
        if (what > 1) {
            return slope(c, edge, what == 2);
        }
        List<Integer> all = new ArrayList<>();
        beginnings(c, edge, 0, what == 0, all);
        return all.stream().mapToInt(v -> v).reduce(what == 0 ? Math::max : Math::min).getAsInt();
    }

    /** The arrivals of all beginnings to an output, with what comes behind it. */
    private void beginnings(int c, int edge, int behind, boolean late, List<Integer> all) {
        if (all.size() > MOST_WALKED) {
            throw new TooMany();
        }
        Cell cell = cells.get(c);
        if (cell.starts()) {
            all.add(behind + (late ? lateStart(c, edge) : earlyStart(c, edge)));
            return;
        }
        for (int i = 0; i < cell.takes.length; i++) {
            if (cell.takes[i] >= 0 && reached(cell.takes[i])) {
                int delay = late ? arc(c, i, edge).lateDelay() : arc(c, i, edge).earlyDelay();
                beginnings(cell.takes[i], cell.kind == 2 ? 1 - edge : edge, behind + delay, late, all);
            }
        }
    }

    int told(int c) {
        if (no(c)) {
            return -1;
        }
        if (!cells.get(c).ends()) {
            return -2;
        }
        int source = cells.get(c).takes[0];
        return source >= 0 && whyOpen(source) != 0 ? 2 : ways(c).isEmpty() ? 0 : 1;
    }

    int slack(int c) {
        return told(c) != 1 ? 1000000000 : ways(c).stream().mapToInt(Way::slack).min().getAsInt();
    }

    int hold(int c) {
        return told(c) != 1 ? 1000000000 : ways(c).stream().mapToInt(Way::hold).min().getAsInt();
    }

    int worst(int how) {
        if (how != 0 && how != 1) {
            return -1;
        }
        int best = -5;
        for (int c = cells.size() - 1; c >= 0; c--) {
            if (told(c) == 1) {
                int v = how == 0 ? slack(c) : hold(c);
                best = best == -5 || v <= (how == 0 ? slack(best) : hold(best)) ? c : best;
            }
        }
        return best;
    }

    int paths(int c) {
        return no(c) ? -1 : !cells.get(c).ends() ? -2 : Math.min(1000, ways(c).size());
    }

    int path(int c, int k) {
        if (no(c) || k < 0) {
            return -1;
        }
        if (!cells.get(c).ends()) {
            return -2;
        }
        if (paths(c) == 1000 || k >= paths(c)) {
            return -1;
        }
        shown = ways(c).get(k);
        return shown.steps().size();
    }

    int step(int i, int what) {
        if (shown == null || out(what, 0, 5) || (what < 4 && out(i, 0, shown.steps().size() - 1))) {
            return 1000000000;
        }
        return switch (what) {
            case 0 -> shown.steps().get(i).cell();
            case 1 -> shown.steps().get(i).input();
            case 2 -> shown.steps().get(i).edge();
            case 3 -> shown.steps().get(i).late();
            case 4 -> shown.slack();
            default -> shown.hold();
        };
    }

    private boolean wins(int p) {
        int was = period(p);
        int worst = worst(0);
        boolean won = worst < 0 || slack(worst) >= 0;
        period(was);
        return won;
    }

    int least(int most) {
        if (out(most, 1, 1000000)) {
            return -1;
        }
        if (!wins(most)) {
            return 0;
        }
        int lost = 0;
        int won = most;
        while (won - lost > 1) {
            int middle = (won + lost) / 2;
            if (wins(middle)) {
                won = middle;
            } else {
                lost = middle;
            }
        }
        return won;
    }

    int fix() {
        int changes = 0;
        while (changes < 100) {
            int end = worst(0);
            if (end < 0 || slack(end) >= 0 || paths(end) == 1000) {
                break;
            }
            int slackWas = slack(end);
            int holdWas = hold(worst(1));
            List<Step> steps = ways(end).get(0).steps();
            boolean grown = false;
            for (int i = 0; i < steps.size() - 1 && !grown; i++) {
                Cell cell = cells.get(steps.get(i).cell());
                if (cell.kind >= 1 && cell.kind <= 4 && cell.size < 2) {
                    cell.size++;
                    changed();
                    grown = worst(0) >= 0 && slack(worst(0)) > slackWas && hold(worst(1)) >= holdWas;
                    if (!grown) {
                        cell.size--;
                        changed();
                    }
                }
            }
            if (!grown) {
                break;
            }
            changes++;
        }
        return changes;
    }

    int area() {
        int sum = 0;
        for (Cell cell : cells) {
            sum += cell.kind == 0 || cell.kind == 5 ? 0 : (1 + cell.size) * cell.takes.length;
        }
        return sum;
    }

    int count(int what) {
        return what == 0 ? cells.size() : what == 1 ? nodes.size() : what == 2 ? excepts.size() : what == 3 ? period : -1;
    }
}
