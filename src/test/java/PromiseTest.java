/** For each promise of the document: ordinary inputs, the edges that it names, and wrong inputs. */
public final class PromiseTest extends Sheet {
    public static void main(String[] args) throws ReflectiveOperationException {
        runTests(PromiseTest.class, "promise", 30);
    }

    private static void promise1NewObject() {
        TimingHouse x = new TimingHouse();
        due("count(0)", x.count(0), 0);
        due("count(1)", x.count(1), 0);
        due("count(2)", x.count(2), 0);
        due("count(3)", x.count(3), 1000);
        due("area()", x.area(), 0);
        due("worst(0)", x.worst(0), FREE);
        due("about(0, 0)", x.about(0, 0), BAD);
        due("step(0, 4)", x.step(0, 4), NO_SLACK);
        due("least(1)", x.least(1), 1);
        due("fix()", x.fix(), 0);
        for (int table = 0; table < 8; table++) {
            due("fall", x.fall(table, 0), 0);
            for (int part = 0; part < 2; part++) {
                for (int row = 0; row < 4; row++) {
                    due("tear", x.tear(table, part, row, 3), 3);
                    due("entry", x.entry(table, part, row, 0, 1), 10);
                    due("entry", x.entry(table, part, row, 1, 2), 10);
                    due("entry", x.entry(table, part, row, 2, 3), 10);
                }
            }
        }
        TimingHouse other = new TimingHouse();
        due("another object is new, too", other.entry(0, 0, 0, 0, 1), 10);
    }

    private static void promise2Make() {
        TimingHouse x = new TimingHouse();
        due("kind below", x.make(-1, 1, 0), BAD);
        due("kind above", x.make(6, 1, 0), BAD);
        due("table below", x.make(GATE, 1, -1), BAD);
        due("table above", x.make(GATE, 1, 8), BAD);
        due("table of a PORT", x.make(PORT, 0, 8), BAD);
        due("table of an END", x.make(END, 0, -1), BAD);
        due("no inputs", x.make(GATE, 0, 0), BAD);
        due("five inputs", x.make(TURNING, 5, 0), BAD);
        due("least of all", x.make(GATE, LEAST, 0), BAD);
        due("nothing was made", x.count(0), 0);
        due("PORT", x.make(PORT, 99, 7), 0);
        due("GATE", x.make(GATE, 1, 0), 1);
        due("TURNING", x.make(TURNING, 4, 7), 2);
        due("BUFFER", x.make(BUFFER, -7, 0), 3);
        due("FLOP", x.make(FLOP, MOST, 0), 4);
        due("END", x.make(END, LEAST, 0), 5);
        int[] inputs = {0, 1, 4, 1, 1, 1};
        for (int c = 0; c < 6; c++) {
            due("kind", x.about(c, 0), c);
            due("inputs", x.about(c, 1), inputs[c]);
            due("size", x.about(c, 2), 0);
        }
        for (int c = 6; c < 50; c++) {
            due("a cell", x.make(PORT, 0, 0), c);
        }
        due("full", x.make(PORT, 0, 0), FULL);
        due("bad is named first", x.make(PORT, 0, 8), BAD);
        due("still", x.count(0), 50);
        TimingHouse y = chain(PORT, END);
        due("asked ahead of a new cell", y.slack(1), 1000);
        y.make(PORT, 0, 0);
        due("a new PORT is reached", y.about(2, 4), 1);
        y.make(FLOP, 0, 0);
        due("a new FLOP has arrivals", y.arrival(3, 1, 0), 10);
    }

    private static void promise3Wire() {
        TimingHouse x = house(PORT, GATE, TURNING, BUFFER, FLOP, END);
        due("free", x.wire(0, 1, 0), FREE);
        due("the same", x.wire(0, 1, 0), 0);
        due("another", x.wire(4, 1, 0), 0);
        due("set free", x.wire(-1, 1, 0), 4);
        due("free again", x.wire(-1, 1, 0), FREE);
        due("from below", x.wire(-2, 1, 0), BAD);
        due("from above", x.wire(6, 1, 0), BAD);
        due("to below", x.wire(0, -1, 0), BAD);
        due("to above", x.wire(0, 6, 0), BAD);
        due("input below", x.wire(0, 1, -1), BAD);
        due("input above", x.wire(0, 1, 2), BAD);
        due("a PORT has no input", x.wire(0, 0, 0), BAD);
        due("an END has no output", x.wire(5, 1, 0), KIND);
        due("bad is named first", x.wire(5, 1, 2), BAD);
        due("kind ahead of ring", x.wire(5, 5, 0), KIND);
        due("itself", x.wire(1, 1, 1), RING);
        due("1 to 2", x.wire(1, 2, 1), FREE);
        due("2 to 3", x.wire(2, 3, 0), FREE);
        due("3 to 1", x.wire(3, 1, 0), RING);
        due("3 to 2, in place of 1", x.wire(3, 2, 1), RING);
        due("nothing changed", x.takes(1, 0), FREE);
        due("it stayed", x.takes(2, 1), 1);
        due("a FLOP by itself", x.wire(4, 4, 0), FREE);
        due("through a FLOP: in", x.wire(3, 4, 0), 4);
        due("through a FLOP: out", x.wire(4, 1, 0), FREE);
        due("the ring is cut", x.wire(-1, 3, 0), 2);
        due("so the other way goes", x.wire(3, 1, 1), FREE);
        due("and the first does not", x.wire(2, 3, 0), RING);
    }

    private static void promise4Extra() {
        TimingHouse x = house(PORT, GATE, END);
        due("first", x.extra(0, 1000), 0);
        due("then", x.extra(0, 0), 1000);
        due("gate", x.extra(1, 7), 0);
        due("load", x.about(1, 3), 7);
        due("below", x.extra(0, -1), BAD);
        due("above", x.extra(0, 1001), BAD);
        due("no cell", x.extra(3, 0), BAD);
        due("no cell", x.extra(-1, 0), BAD);
        due("END", x.extra(2, 0), KIND);
        due("bad is named first", x.extra(2, 1001), BAD);
        due("as it was", x.extra(0, 0), 0);
    }

    private static void promise5Size() {
        TimingHouse x = house(PORT, GATE, TURNING, BUFFER, FLOP, END);
        for (int c = 1; c < 5; c++) {
            due("first", x.size(c, 2), 0);
            due("then", x.size(c, 1), 2);
            due("about", x.about(c, 2), 1);
        }
        due("below", x.size(1, -1), BAD);
        due("above", x.size(1, 3), BAD);
        due("no cell", x.size(6, 0), BAD);
        due("PORT", x.size(0, 0), KIND);
        due("END", x.size(5, 0), KIND);
        due("bad is named first", x.size(5, 3), BAD);
        due("as it was", x.size(1, 0), 1);
        x.wire(0, 2, 0);
        due("an input's load", x.about(0, 3), 2);
        x.size(2, 2);
        due("a greater one's", x.about(0, 3), 3);
        // 25 to drive: by SIZE 0 between the rows 24 and 64, by SIZE 1 (13 late, 12 early) between 8 and 24.
        TimingHouse y = chain(PORT, BUFFER, END);
        y.extra(1, 24);
        y.entry(0, 0, 2, 0, 90);
        y.entry(0, 0, 3, 0, 890);
        due("slow", y.arrival(1, 0, 0), 110);
        y.size(1, 1);
        due("late, rounded up to 13: 10 + 80 * 5 / 16", y.arrival(1, 0, 0), 35);
        due("early, rounded down to 12: 10 + 80 * 4 / 16", y.arrival(1, 0, 1), 30);
    }

    private static void promise6Port() {
        TimingHouse x = chain(PORT, BUFFER, END);
        due("told", x.port(0, 3, 70, 16), 0);
        for (int edge = 0; edge < 2; edge++) {
            due("late", x.arrival(0, edge, 0), 70);
            due("early", x.arrival(0, edge, 1), 3);
            due("late slope", x.arrival(0, edge, 2), 16);
            due("early slope", x.arrival(0, edge, 3), 16);
        }
        due("early may be the greater one", x.port(0, 100000, 0, 100000), 0);
        due("late", x.arrival(1, 0, 0), 10);
        due("early", x.arrival(1, 0, 1), 100010);
        due("early below", x.port(0, -1, 0, 0), BAD);
        due("early above", x.port(0, 100001, 0, 0), BAD);
        due("late below", x.port(0, 0, -1, 0), BAD);
        due("late above", x.port(0, 0, 100001, 0), BAD);
        due("slope below", x.port(0, 0, 0, -1), BAD);
        due("slope above", x.port(0, 0, 0, 100001), BAD);
        due("no cell", x.port(3, 0, 0, 0), BAD);
        due("KIND", x.port(1, 0, 0, 0), KIND);
        due("bad is named first", x.port(1, 0, 0, -1), BAD);
        due("as it was", x.arrival(0, 1, 1), 100000);
    }

    private static void promise7Target() {
        TimingHouse x = house(PORT, FLOP, END, GATE);
        x.wire(0, 1, 0);
        x.wire(0, 2, 0);
        due("no node yet", x.target(1, 0, 0, 0), BAD);
        x.node(-1, 30, 50);
        due("FLOP", x.target(1, 0, 7, 5), 0);
        due("slack: 1000 + 30 - 7", x.slack(1), 1023);
        due("hold: 0 - 50 - 5", x.hold(1), -55);
        due("its output leaves later", x.arrival(1, 0, 0), 60);
        due("END", x.target(2, -1, -10000, 10000), 0);
        due("slack", x.slack(2), 11000);
        due("hold", x.hold(2), -10000);
        due("END at a node", x.target(2, 0, 0, 0), BAD);
        due("node below", x.target(1, -2, 0, 0), BAD);
        due("node above", x.target(1, 1, 0, 0), BAD);
        due("setup below", x.target(1, 0, -10001, 0), BAD);
        due("setup above", x.target(1, 0, 10001, 0), BAD);
        due("hold below", x.target(1, 0, 0, -10001), BAD);
        due("hold above", x.target(1, 0, 0, 10001), BAD);
        due("no cell", x.target(4, -1, 0, 0), BAD);
        due("PORT", x.target(0, -1, 0, 0), KIND);
        due("GATE", x.target(3, 0, 0, 0), KIND);
        due("bad is named first", x.target(3, 1, 0, 0), BAD);
        due("as it was", x.slack(1), 1023);
        due("back to the root", x.target(1, -1, 0, 0), 0);
        due("slack", x.slack(1), 1000);
    }

    private static void promise8Entry() {
        TimingHouse x = new TimingHouse();
        due("first", x.entry(7, 1, 3, 2, 3000), 10);
        due("then", x.entry(7, 1, 3, 2, 0), 3000);
        due("then", x.entry(7, 1, 3, 2, 5), 0);
        due("its neighbours stay", x.entry(7, 1, 3, 1, 10), 10);
        due("the other part stays", x.entry(7, 0, 3, 2, 10), 10);
        int[][] bad = {{-1, 0, 0, 0, 0}, {8, 0, 0, 0, 0}, {0, -1, 0, 0, 0}, {0, 2, 0, 0, 0}, {0, 0, -1, 0, 0},
            {0, 0, 4, 0, 0}, {0, 0, 0, -1, 0}, {0, 0, 0, 3, 0}, {0, 0, 0, 0, -1}, {0, 0, 0, 0, 3001}};
        for (int[] b : bad) {
            due("bad", x.entry(b[0], b[1], b[2], b[3], b[4]), BAD);
        }
        x.tear(0, 0, 0, 0);
        x.tear(0, 0, 1, 1);
        x.tear(0, 0, 2, 2);
        due("missing", x.entry(0, 0, 0, 0, 1), MISSING);
        due("missing", x.entry(0, 0, 0, 2, 1), MISSING);
        due("there", x.entry(0, 0, 1, 0, 1), 10);
        due("ended", x.entry(0, 0, 1, 1, 1), ENDED);
        due("ended", x.entry(0, 0, 1, 2, 1), ENDED);
        due("there", x.entry(0, 0, 2, 1, 1), 10);
        due("ended", x.entry(0, 0, 2, 2, 1), ENDED);
        due("bad is named first", x.entry(0, 0, 0, 0, 3001), BAD);
    }

    private static void promise9Tear() {
        TimingHouse x = new TimingHouse();
        for (int column = 0; column < 3; column++) {
            x.entry(2, 1, 1, column, 70 + column);
        }
        due("whole", x.tear(2, 1, 1, 2), 3);
        due("two", x.tear(2, 1, 1, 2), 2);
        due("whole again", x.tear(2, 1, 1, 3), 2);
        due("stays", x.entry(2, 1, 1, 0, 70), 70);
        due("stays", x.entry(2, 1, 1, 1, 71), 71);
        due("anew", x.entry(2, 1, 1, 2, 72), 10);
        due("one", x.tear(2, 1, 1, 1), 3);
        due("none", x.tear(2, 1, 1, 0), 1);
        due("two", x.tear(2, 1, 1, 2), 0);
        due("anew", x.entry(2, 1, 1, 0, 1), 10);
        due("anew", x.entry(2, 1, 1, 1, 1), 10);
        due("not there", x.entry(2, 1, 1, 2, 1), ENDED);
        int[][] bad = {{-1, 0, 0, 0}, {8, 0, 0, 0}, {0, -1, 0, 0}, {0, 2, 0, 0}, {0, 0, -1, 0}, {0, 0, 4, 0},
            {0, 0, 0, -1}, {0, 0, 0, 4}};
        for (int[] b : bad) {
            due("bad", x.tear(b[0], b[1], b[2], b[3]), BAD);
        }
        due("nothing changed", x.tear(0, 0, 0, 3), 3);
    }

    private static void promise10Fall() {
        TimingHouse x = chain(PORT, TURNING, FLOP, END);
        due("first", x.fall(0, 1000), 0);
        due("then", x.fall(0, 6), 1000);
        due("other table", x.fall(7, 5), 0);
        due("rising late", x.arrival(1, 0, 0), 10);
        due("falling late", x.arrival(1, 1, 0), 16);
        due("falling early", x.arrival(1, 1, 1), 16);
        due("a FLOP's, rising", x.arrival(2, 0, 0), 10);
        due("a FLOP's, falling", x.arrival(2, 1, 0), 16);
        x.corner(500, 500);
        due("corners leave it", x.arrival(1, 1, 0), 21);
        due("corners leave it", x.arrival(1, 1, 1), 11);
        due("slopes do not have it", x.arrival(1, 1, 2), 10);
        x.fall(0, 7);
        due("asked again", x.arrival(1, 1, 0), 22);
        x.fall(0, 6);
        due("below", x.fall(0, -1), BAD);
        due("above", x.fall(0, 1001), BAD);
        due("no table", x.fall(8, 0), BAD);
        due("no table", x.fall(-1, 0), BAD);
        due("as it was", x.fall(0, 6), 6);
    }

    private static void promise11Corner() {
        TimingHouse x = chain(PORT, BUFFER, END);
        due("both", x.corner(1, 1), 0);
        due("late 10.01, up", x.arrival(1, 0, 0), 11);
        due("early 9.99, down", x.arrival(1, 0, 1), 9);
        due("slopes stay", x.arrival(1, 0, 2), 10);
        due("slopes stay", x.arrival(1, 0, 3), 10);
        due("late first", x.corner(500, 0), 0);
        due("late", x.arrival(1, 0, 0), 15);
        due("early", x.arrival(1, 0, 1), 10);
        due("early second", x.corner(0, 500), 0);
        due("late", x.arrival(1, 0, 0), 10);
        due("early", x.arrival(1, 0, 1), 5);
        due("late below", x.corner(-1, 0), BAD);
        due("late above", x.corner(501, 0), BAD);
        due("early below", x.corner(0, -1), BAD);
        due("early above", x.corner(0, 501), BAD);
        due("as it was", x.arrival(1, 0, 1), 5);
    }

    private static void promise12Period() {
        TimingHouse x = chain(PORT, END);
        due("first", x.period(1), 1000);
        due("slack", x.slack(1), 1);
        due("then", x.period(1000000), 1);
        due("slack", x.slack(1), 1000000);
        due("below", x.period(0), BAD);
        due("above", x.period(1000001), BAD);
        due("as it was", x.count(3), 1000000);
    }

    private static void promise13Node() {
        TimingHouse x = house(FLOP);
        due("parent above", x.node(0, 0, 0), BAD);
        due("parent below", x.node(-2, 0, 0), BAD);
        due("early below", x.node(-1, -1, 0), BAD);
        due("late less", x.node(-1, 2, 1), BAD);
        due("late above", x.node(-1, 0, 100001), BAD);
        due("none yet", x.count(1), 0);
        due("on the root", x.node(-1, 0, 100000), 0);
        due("on it", x.node(0, 3, 4), 1);
        for (int n = 2; n < 20; n++) {
            due("more", x.node(n - 1, 100000, 100000), n);
        }
        due("full", x.node(-1, 0, 0), FULL);
        due("bad is named first", x.node(20, 0, 0), BAD);
        due("how many", x.count(1), 20);
        x.target(0, 19, 0, 0);
        due("late sum", x.arrival(0, 0, 0), 100000 + 4 + 18 * 100000 + 10);
        due("early sum", x.arrival(0, 0, 1), 3 + 18 * 100000 + 10);
    }

    private static void promise14Except() {
        TimingHouse x = house(PORT, PORT, GATE, GATE, END, END);
        x.wire(0, 2, 0);
        x.wire(1, 2, 1);
        x.wire(2, 3, 0);
        x.wire(1, 3, 1);
        x.wire(3, 4, 0);
        x.wire(2, 5, 0);
        for (int n : new int[] {-1, 1, 5, LEAST, MOST}) {
            due("n", x.except(n, 0, -1, -1), BAD);
        }
        due("from above", x.except(0, 6, -1, -1), BAD);
        due("from below", x.except(0, -2, -1, -1), BAD);
        due("through above", x.except(0, -1, 6, -1), BAD);
        due("to above", x.except(0, -1, -1, 6), BAD);
        due("all any", x.except(0, -1, -1, -1), BAD);
        due("paths", x.paths(4), 6);
        due("from", x.except(0, 1, -1, 4), 0);
        due("only those of 0", x.paths(4), 2);
        due("the other END keeps its own", x.paths(5), 4);
        due("three periods through 2", x.except(3, -1, 2, -1), 1);
        due("the later one holds", x.paths(4), 4);
        due("slack", x.slack(4), 2980);
        due("slack", x.slack(5), 2990);
        due("a START is on its path", x.except(2, -1, 0, -1), 2);
        due("slack", x.slack(4), 1980);
        due("a TARGET is on its path", x.except(4, -1, 5, -1), 3);
        due("slack", x.slack(5), 3990);
        due("hold does not have periods", x.hold(5), 10);
        due("full", x.except(0, 0, -1, -1), FULL);
        due("bad is named first", x.except(1, 0, -1, -1), BAD);
        due("how many", x.count(2), 4);
        TimingHouse y = chain(PORT, GATE, END);
        y.except(0, 1, -1, -1);
        due("a gate is no START", y.told(2), 1);
        y.except(0, -1, -1, 1);
        due("a gate is no TARGET", y.told(2), 1);
    }

    private static void promise15Unexcept() {
        TimingHouse x = chain(PORT, GATE, END);
        due("none", x.unexcept(), BAD);
        x.except(4, 0, -1, -1);
        x.except(0, -1, 1, -1);
        due("false", x.told(2), 0);
        due("the latest goes", x.unexcept(), 1);
        due("four periods", x.slack(2), 3990);
        due("the first goes", x.unexcept(), 0);
        due("one period", x.slack(2), 990);
        due("none", x.unexcept(), BAD);
        due("a new one has the number", x.except(2, 0, -1, -1), 0);
    }

    private static void promise16About() {
        TimingHouse x = house(PORT, GATE, FLOP, END, BUFFER, END);
        due("no cell", x.about(6, 0), BAD);
        due("no cell", x.about(-1, 0), BAD);
        due("what below", x.about(0, -1), BAD);
        due("what above", x.about(0, 6), BAD);
        int[] atFirst = {1, 0, 1, 0, 0, 0};
        for (int c = 0; c < 6; c++) {
            due("reached", x.about(c, 4), atFirst[c]);
            due("open", x.about(c, 5), 0);
            due("load", x.about(c, 3), 0);
        }
        x.wire(4, 1, 0);
        x.wire(4, 5, 0);
        x.wire(1, 3, 0);
        due("by what is not reached", x.about(1, 4), 0);
        x.wire(0, 1, 1);
        due("by a PORT", x.about(1, 4), 1);
        due("an END by its input", x.about(3, 4), 1);
        due("not this one", x.about(5, 4), 0);
        due("nor the cell ahead", x.about(4, 4), 0);
        x.wire(1, 2, 0);
        x.size(2, 2);
        x.extra(1, 9);
        due("extra 9, an END 1, a FLOP 3", x.about(1, 3), 13);
        due("load of an END", x.about(3, 3), 0);
        x.wire(4, 1, 1);
        due("two inputs of one cell, and an END", x.about(4, 3), 3);
        due("not reached any more", x.about(3, 4), 0);
    }

    private static void promise16AboutOpen() {
        TimingHouse x = chain(PORT, BUFFER, BUFFER, FLOP, END);
        x.make(FLOP, 1, 1);
        x.tear(0, 1, 0, 0);
        due("rows 0 and 8: the first is missing", x.about(1, 5), MISSING);
        due("its input is open", x.about(2, 5), 1);
        due("a FLOP fails by itself", x.about(3, 5), MISSING);
        due("an END by its input", x.about(4, 5), 1);
        due("another table", x.about(5, 5), 0);
        due("a PORT", x.about(0, 5), 0);
        x.tear(0, 1, 0, 1);
        due("the first number is enough at slope 0", x.about(1, 5), 0);
        due("the next one has slope 10", x.about(2, 5), ENDED);
        due("slope 0 again in a FLOP", x.about(3, 5), 0);
        due("its END", x.about(4, 5), 0);
        x.tear(0, 0, 1, 0);
        due("the second row is asked for, too", x.about(1, 5), MISSING);
        due("an input is asked first", x.about(2, 5), 1);
        x.extra(1, 7);
        x.tear(0, 1, 0, 3);
        due("load 8 is on the row alone", x.about(1, 5), MISSING);
        x.tear(0, 0, 1, 3);
        x.tear(0, 0, 2, 0);
        due("the row above load 8 is not asked for", x.about(1, 5), 0);
        x.extra(1, 8);
        due("at load 9 it is", x.about(1, 5), MISSING);
        due("arrival", x.arrival(1, 0, 0), NO_ARRIVAL);
        x.size(1, 1);
        due("load 9 by 2: rows 0 and 8", x.about(1, 5), 0);
        edgesAndInputsOfOpen();
        earlyLookUpsOfOpen();
    }

    private static void edgesAndInputsOfOpen() {
        // Input 1 has slope 20 and needs the second number; RISING input 0 is fine: the failure is input 1's.
        TimingHouse x = house(PORT, PORT, GATE);
        x.wire(0, 2, 0);
        x.wire(1, 2, 1);
        x.port(1, 0, 0, 20);
        x.tear(0, 0, 0, 1);
        due("the second input's", x.about(2, 5), ENDED);
        x.tear(0, 1, 0, 0);
        due("the first input's slope comes ahead of it", x.about(2, 5), MISSING);
        x.wire(-1, 2, 0);
        due("the second one alone: its delay", x.about(2, 5), ENDED);
        TimingHouse y = new TimingHouse();
        y.make(BUFFER, 1, 0);
        due("a free input has no arcs", y.about(0, 5), 0);
        y.tear(0, 0, 0, 0);
        due("nor look-ups", y.about(0, 5), 0);
    }

    private static void earlyLookUpsOfOpen() {
        // Load 17 by SIZE 1: late 9 asks for rows 8 and 24, early 8 for row 8 alone.
        TimingHouse x = chain(PORT, BUFFER, END);
        x.extra(1, 16);
        x.size(1, 1);
        x.tear(0, 0, 2, 0);
        due("late", x.about(1, 5), MISSING);
        x.tear(0, 0, 2, 3);
        // Load 15 by SIZE 1: late 8 is row 8 alone, early 7 asks for rows 0 and 8.
        x.extra(1, 14);
        x.tear(0, 0, 0, 0);
        due("early", x.about(1, 5), MISSING);
        x.tear(0, 0, 0, 2);
        due("numbers behind the first are not asked for at slope 0", x.about(1, 5), 0);
        x.tear(0, 0, 1, 0);
        x.tear(0, 0, 0, 0);
        x.tear(0, 0, 1, 1);
        x.port(0, 0, 0, 64);
        due("late is asked first", x.about(1, 5), ENDED);
        x.tear(0, 0, 1, 3);
        due("then early", x.about(1, 5), MISSING);
    }

    private static void promise17Takes() {
        TimingHouse x = house(PORT, GATE, END);
        due("free", x.takes(1, 0), FREE);
        x.wire(0, 1, 1);
        due("it", x.takes(1, 1), 0);
        due("the other is free", x.takes(1, 0), FREE);
        due("input below", x.takes(1, -1), BAD);
        due("input above", x.takes(1, 2), BAD);
        due("a PORT has none", x.takes(0, 0), BAD);
        due("no cell", x.takes(3, 0), BAD);
        due("no cell", x.takes(-1, 0), BAD);
        due("END", x.takes(2, 0), FREE);
    }

    private static void promise18Arrival() {
        TimingHouse x = house(PORT, PORT, GATE, END, BUFFER);
        x.wire(0, 2, 0);
        x.wire(1, 2, 1);
        x.wire(2, 3, 0);
        x.port(0, 5, 40, 0);
        x.port(1, 9, 20, 64);
        x.entry(0, 0, 0, 2, 90);
        x.entry(0, 1, 0, 2, 50);
        // Load 1, slope 64: (7 * 90 + 10) / 8 = 80; slopes (7 * 50 + 10) / 8 = 45.
        due("late: 20 + 80", x.arrival(2, 0, 0), 100);
        due("early: 5 + 10", x.arrival(2, 0, 1), 15);
        due("late slope", x.arrival(2, 1, 2), 45);
        due("early slope", x.arrival(2, 1, 3), 10);
        x.except(0, -1, 2, -1);
        due("exceptions do not count", x.arrival(2, 0, 0), 100);
        due("edge below", x.arrival(2, -1, 0), NO_ARRIVAL);
        due("edge above", x.arrival(2, 2, 0), NO_ARRIVAL);
        due("what below", x.arrival(2, 0, -1), NO_ARRIVAL);
        due("what above", x.arrival(2, 0, 4), NO_ARRIVAL);
        due("END", x.arrival(3, 0, 0), NO_ARRIVAL);
        due("no cell", x.arrival(5, 0, 0), NO_ARRIVAL);
        due("no cell", x.arrival(-1, 0, 0), NO_ARRIVAL);
        due("not reached", x.arrival(4, 0, 2), NO_ARRIVAL);
        x.tear(0, 0, 0, 2);
        due("open", x.arrival(2, 0, 0), NO_ARRIVAL);
        turningArrival();
    }

    private static void turningArrival() {
        // FALL 6 at the FALLING output of the first cell is a RISING signal behind the second.
        TimingHouse x = chain(PORT, TURNING, TURNING, BUFFER);
        x.make(TURNING, 1, 1);
        x.wire(1, 4, 0);
        x.fall(0, 6);
        due("rising behind the first", x.arrival(1, 0, 0), 10);
        due("falling behind the first", x.arrival(1, 1, 0), 16);
        due("rising behind another table's", x.arrival(4, 0, 0), 26);
        due("falling behind another table's", x.arrival(4, 1, 0), 20);
        due("rising behind the second", x.arrival(2, 0, 0), 26);
        due("falling behind the second", x.arrival(2, 1, 0), 26);
        due("a BUFFER does not turn", x.arrival(3, 1, 0), 42);
        due("a BUFFER does not turn", x.arrival(3, 0, 0), 36);
    }

    /** The twelve numbers of a part are told apart; x is loads, y slopes. */
    private static void promise18LookUps() {
        TimingHouse x = chain(PORT, BUFFER);
        for (int row = 0; row < 4; row++) {
            for (int column = 0; column < 3; column++) {
                x.entry(0, 0, row, column, 100 * row * row + 7 * column * column + 1);
            }
        }
        int[] loads = {0, 8, 24, 64, 65, 1000, 4, 16, 44, 1, 63};
        int[] atSlope0 = {1, 101, 401, 901, 901, 901, 51, 251, 651, 14, 889};
        int[] earlies = {1, 101, 401, 901, 901, 901, 51, 251, 651, 13, 888};
        for (int i = 0; i < loads.length; i++) {
            x.extra(1, loads[i]);
            due("late at load " + loads[i], x.arrival(1, 0, 0), atSlope0[i]);
            due("early at load " + loads[i], x.arrival(1, 0, 1), earlies[i]);
        }
        x.extra(1, 0);
        int[] slopes = {0, 16, 64, 65, 100000, 8, 40, 1, 63};
        int[] late = {1, 8, 29, 29, 29, 5, 19, 2, 29};
        int[] early = {1, 8, 29, 29, 29, 4, 18, 1, 28};
        for (int i = 0; i < slopes.length; i++) {
            x.port(0, 0, 0, slopes[i]);
            due("late at slope " + slopes[i], x.arrival(1, 0, 0), late[i]);
            due("early at slope " + slopes[i], x.arrival(1, 0, 1), early[i]);
        }
        TimingHouse z = chain(PORT, BUFFER, BUFFER);
        for (int part = 0; part < 2; part++) {
            for (int row = 0; row < 2; row++) {
                z.entry(0, part, row, 0, 0);
            }
        }
        for (int what = 0; what < 4; what++) {
            due("zeros", z.arrival(1, 0, what), 0);
            due("zeros", z.arrival(2, 1, what), 0);
        }
        // Rounded once, at the end: a quarter of 1 along the loads of a quarter of 1 along the slopes is 1/16.
        TimingHouse y = chain(PORT, BUFFER);
        for (int row = 0; row < 4; row++) {
            for (int column = 0; column < 3; column++) {
                y.entry(0, 0, row, column, row == 1 && column == 1 ? 48 : 0);
            }
        }
        y.extra(1, 2);
        y.port(0, 0, 0, 4);
        due("48 / 16", y.arrival(1, 0, 0), 3);
        due("48 / 16", y.arrival(1, 0, 1), 3);
        y.entry(0, 0, 1, 1, 49);
        due("49 / 16, up", y.arrival(1, 0, 0), 4);
        due("49 / 16, down", y.arrival(1, 0, 1), 3);
    }

    private static void promise19Told() {
        TimingHouse x = house(PORT, BUFFER, FLOP, END, BUFFER);
        due("no cell", x.told(5), BAD);
        due("no cell", x.told(-1), BAD);
        due("PORT", x.told(0), KIND);
        due("BUFFER", x.told(1), KIND);
        due("free", x.told(2), 0);
        x.wire(4, 3, 0);
        due("not reached", x.told(3), 0);
        x.wire(0, 1, 0);
        x.wire(1, 2, 0);
        x.wire(2, 3, 0);
        due("FLOP", x.told(2), 1);
        due("END", x.told(3), 1);
        x.except(0, -1, -1, 2);
        due("no path counts", x.told(2), 0);
        x.tear(0, 0, 0, 0);
        due("open comes first", x.told(2), 2);
        due("by a FLOP that fails", x.told(3), 2);
        x.wire(0, 3, 0);
        due("a PORT does not", x.told(3), 1);
    }

    private static void promise20Slack() {
        TimingHouse x = chain(PORT, GATE, TURNING, END);
        due("no cell", x.slack(4), NO_SLACK);
        due("no cell", x.slack(-1), NO_SLACK);
        due("no TARGET", x.slack(1), NO_SLACK);
        due("1000 - 20", x.slack(3), 980);
        x.wire(0, 2, 1);
        due("the longer way", x.slack(3), 980);
        x.except(0, -1, 1, -1);
        due("the shorter way", x.slack(3), 990);
        x.unexcept();
        x.except(2, -1, 1, -1);
        due("the shorter way has one period", x.slack(3), 990);
        x.except(0, -1, -1, 3);
        due("not told", x.slack(3), NO_SLACK);
        x.unexcept();
        x.tear(0, 0, 0, 0);
        due("open", x.slack(3), NO_SLACK);
        // What the clock trees have in common goes by START: the worst arrival need not have the worst slack.
        TimingHouse y = house(FLOP, PORT, GATE, FLOP);
        y.node(-1, 0, 50);
        y.target(0, 0, 0, 0);
        y.target(3, 0, 0, 0);
        y.wire(0, 2, 0);
        y.wire(1, 2, 1);
        y.wire(2, 3, 0);
        y.port(1, 0, 40, 0);
        due("the later arrival is the FLOP's", y.arrival(2, 0, 0), 70);
        due("the PORT's: 1000 - 50", y.slack(3), 950);
        y.port(1, 0, 0, 0);
        due("the FLOP's: 1000 + 50 - 70", y.slack(3), 980);
    }

    private static void promise21Hold() {
        TimingHouse x = house(FLOP, FLOP, BUFFER);
        x.node(-1, 10, 30);
        x.node(0, 5, 6);
        x.wire(0, 1, 0);
        x.target(0, 0, 0, 0);
        x.target(1, 1, 0, 4);
        due("10 + 10 - 36 - 4 + 20", x.hold(1), 0);
        x.target(0, -1, 0, 0);
        due("0 + 10 - 36 - 4", x.hold(1), -30);
        due("free", x.hold(0), NO_SLACK);
        due("no TARGET", x.hold(2), NO_SLACK);
        due("no cell", x.hold(3), NO_SLACK);
        due("no cell", x.hold(-1), NO_SLACK);
        x.except(0, 0, -1, -1);
        due("false paths do not count", x.hold(1), NO_SLACK);
        x.unexcept();
        x.tear(0, 1, 0, 0);
        due("open", x.hold(1), NO_SLACK);
        // Two ways from one START: the shorter one has the hold slack, by whichever input it comes.
        for (int input = 0; input < 2; input++) {
            TimingHouse y = house(PORT, GATE, GATE, END);
            y.wire(0, 1, 0);
            y.wire(0, 2, input);
            y.wire(1, 2, 1 - input);
            y.wire(2, 3, 0);
            due("the shorter way", y.hold(3), 10);
            due("the longer way", y.slack(3), 980);
        }
    }

    private static void promise22Worst() {
        TimingHouse x = house(PORT, BUFFER, END, END, END);
        due("none", x.worst(0), FREE);
        due("none", x.worst(1), FREE);
        x.wire(0, 1, 0);
        x.wire(0, 2, 0);
        x.wire(1, 3, 0);
        x.wire(1, 4, 0);
        due("slack", x.worst(0), 3);
        due("hold", x.worst(1), 2);
        x.target(4, -1, 1, 11);
        due("slack", x.worst(0), 4);
        due("hold", x.worst(1), 4);
        x.except(0, -1, -1, 4);
        due("not told", x.worst(0), 3);
        due("below", x.worst(-1), BAD);
        due("above", x.worst(2), BAD);
    }

    private static void promise23Paths() {
        TimingHouse x = ladder(4);
        due("2 * 256", x.paths(5), 512);
        due("no cell", x.paths(6), BAD);
        due("no cell", x.paths(-1), BAD);
        due("PORT", x.paths(0), KIND);
        due("GATE", x.paths(1), KIND);
        x.make(PORT, 0, 0);
        x.wire(6, 1, 1);
        due("from both", x.paths(5), 512);
        x.make(GATE, 4, 0);
        x.wire(7, 1, 0);
        due("by what is not reached none go", x.paths(5), 384);
        for (int i = 0; i < 3; i++) {
            x.wire(0, 7, i);
        }
        due("three ways to that input", x.paths(5), 768);
        x.wire(0, 7, 3);
        due("four", x.paths(5), 896);
        x.except(0, 6, -1, -1);
        due("but 128", x.paths(5), 768);
        x.tear(0, 0, 0, 0);
        due("open", x.paths(5), 0);
        due("1000 at least", ladder(5).paths(6), 1000);
        TimingHouse y = ladder(47);
        due("far too many", y.paths(48), 1000);
        due("their slack", y.slack(48), 1000 - 470);
        due("their hold slack", y.hold(48), 470);
        due("their least period", y.least(1000), 470);
        due("an exception through the middle", y.except(2, -1, 24, -1), 0);
        due("slack", y.slack(48), 2000 - 470);
        due("false through another", y.except(0, -1, 25, -1), 1);
        due("none", y.paths(48), 0);
        for (int i = 0; i < 4; i++) {
            y.wire(-1, 10, i);
        }
        y.unexcept();
        due("cut off", y.paths(48), 0);
        y.wire(0, 40, 3);
        due("2 * 4 to the power of 7", y.paths(48), 1000);
        for (int c = 40; c < 46; c++) {
            y.except(0, -1, -1, 48);
            y.wire(0, c, 3);
        }
        due("none", y.paths(48), 0);
        exactlyAThousand();
    }

    /** 2 * 500: four inputs of 125, which is 5 to the power of 3, each ways. */
    private static void exactlyAThousand() {
        TimingHouse x = house(PORT);
        int last = 0;
        for (int stage = 0; stage < 3; stage++) {
            int four = x.make(GATE, 4, 0);
            int five = x.make(GATE, 2, 0);
            for (int i = 0; i < 4; i++) {
                x.wire(last, four, i);
            }
            x.wire(four, five, 0);
            x.wire(last, five, 1);
            last = five;
        }
        int gate = x.make(GATE, 4, 0);
        int end = x.make(END, 0, 0);
        for (int i = 0; i < 3; i++) {
            x.wire(last, gate, i);
        }
        x.wire(gate, end, 0);
        due("750", x.paths(end), 750);
        due("the last one", x.path(end, 749), 6);
        due("none behind it", x.path(end, 750), BAD);
        x.wire(last, gate, 3);
        due("1000", x.paths(end), 1000);
        due("then none is shown", x.path(end, 0), BAD);
        due("the one shown stays", x.step(1, 1), 1);
    }

    private static void promise24Path() {
        TimingHouse x = house(PORT, PORT, GATE, GATE, END, GATE);
        x.wire(1, 2, 0);
        x.wire(0, 2, 1);
        x.wire(2, 3, 0);
        x.wire(0, 3, 1);
        x.wire(3, 4, 0);
        due("no cell", x.path(6, 0), BAD);
        due("k below", x.path(4, -1), BAD);
        due("k above", x.path(4, 6), BAD);
        due("KIND", x.path(3, 0), KIND);
        due("PORT", x.path(0, 0), KIND);
        due("nothing is shown", x.step(0, 0), NO_SLACK);
        // Slack 980: 0 by 2 (input 1) and 3, both EDGES, then 1 by 2; then 990: 0 by 3.
        int[][] order = {{0, 0, 4}, {0, 1, 4}, {1, 0, 4}, {1, 1, 4}, {0, 0, 3}, {0, 1, 3}};
        for (int k = 0; k < 6; k++) {
            due("cells of " + k, x.path(4, k), order[k][2]);
            due("START of " + k, x.step(0, 0), order[k][0]);
            due("EDGE of " + k, x.step(0, 2), order[k][1]);
        }
        due("no such path", x.path(4, 6), BAD);
        due("the last one is still shown", x.step(1, 0), 3);
        due("by its input", x.step(1, 1), 1);
        orderByCellsAndInputs();
        longestPath();
        falsePathsWithoutNumber();
    }

    private static void orderByCellsAndInputs() {
        // From 0 to 4 by 1 or 2 (two inputs each), then 3: all have the same slack.
        TimingHouse x = house(PORT, GATE, GATE, GATE, END);
        x.wire(0, 1, 0);
        x.wire(0, 1, 1);
        x.wire(0, 2, 0);
        x.wire(0, 2, 1);
        x.wire(2, 3, 0);
        x.wire(1, 3, 1);
        x.wire(3, 4, 0);
        int[][] order = {{1, 0, 1}, {1, 1, 1}, {2, 0, 0}, {2, 1, 0}};
        due("paths", x.paths(4), 8);
        for (int k = 0; k < 8; k++) {
            int[] want = order[k % 4];
            due("cells", x.path(4, k), 4);
            due("EDGE", x.step(0, 2), k / 4);
            due("the lesser cell", x.step(1, 0), want[0]);
            due("the lesser input", x.step(1, 1), want[1]);
            due("its input then", x.step(2, 1), want[2]);
        }
        // The first that differ: input 0 of cell 1 comes ahead, whatever cells are behind it.
        TimingHouse y = house(PORT, GATE, GATE, GATE, GATE, END);
        y.wire(0, 1, 0);
        y.wire(0, 1, 1);
        y.wire(1, 2, 0);
        y.wire(1, 3, 0);
        y.wire(2, 4, 1);
        y.wire(3, 4, 0);
        y.wire(4, 5, 0);
        int[][] then = {{0, 2}, {0, 3}, {1, 2}, {1, 3}};
        for (int k = 0; k < 4; k++) {
            due("cells", y.path(5, k), 5);
            due("input", y.step(1, 1), then[k][0]);
            due("next cell", y.step(2, 0), then[k][1]);
        }
    }

    private static void longestPath() {
        TimingHouse x = house(FLOP);
        for (int c = 1; c < 50; c++) {
            x.make(TURNING, 1, 0);
            x.wire(c - 1, c, 0);
        }
        x.wire(49, 0, 0);
        due("from a FLOP through all to itself", x.path(0, 0), 51);
        due("START", x.step(0, 0), 0);
        due("START's input", x.step(0, 1), -1);
        due("last gate", x.step(49, 0), 49);
        due("TARGET", x.step(50, 0), 0);
        due("TARGET's input", x.step(50, 1), 0);
        due("turned 49 times", x.step(50, 2), 1);
        due("late", x.step(50, 3), 500);
        due("no more", x.step(51, 0), NO_SLACK);
    }

    /** Of a net with far too many paths only two count, and these are found. */
    private static void falsePathsWithoutNumber() {
        TimingHouse x = ladder(46);
        x.except(0, 0, -1, -1);
        due("none", x.paths(47), 0);
        due("none", x.path(47, 0), BAD);
        int port = x.make(PORT, 0, 0);
        x.wire(port, 46, 2);
        due("two", x.paths(47), 2);
        due("cells", x.path(47, 1), 3);
        due("START", x.step(0, 0), port);
        due("EDGE", x.step(0, 2), 1);
        due("input", x.step(1, 1), 2);
        due("slack", x.slack(47), 990);
    }

    private static void promise25Step() {
        TimingHouse x = house(FLOP, TURNING, END);
        due("none shown", x.step(0, 0), NO_SLACK);
        due("none shown", x.step(0, 4), NO_SLACK);
        due("none shown", x.step(0, 5), NO_SLACK);
        x.node(-1, 3, 8);
        x.target(0, 0, 0, 0);
        x.target(2, -1, 50, 2);
        x.wire(0, 1, 1);
        x.wire(1, 2, 0);
        x.fall(0, 4);
        x.corner(100, 100);
        // RISING: 8 + 11, then 15 FALLING. FALLING: 8 + 15, then 11 RISING. Both 34: RISING comes first.
        due("path", x.path(2, 0), 3);
        int[][] steps = {{0, -1, 0, 19}, {1, 1, 1, 34}, {2, 0, 1, 34}};
        for (int i = 0; i < 3; i++) {
            for (int what = 0; what < 4; what++) {
                due("step(" + i + ", " + what + ")", x.step(i, what), steps[i][what]);
            }
        }
        due("slack", x.step(0, 4), 1000 - 50 - 34);
        due("hold slack: 3 + 9 + 13 - 2", x.step(0, 5), 23);
        due("slack, whatever i", x.step(LEAST, 4), 916);
        due("hold slack, whatever i", x.step(MOST, 5), 23);
        due("i below", x.step(-1, 0), NO_SLACK);
        due("i above", x.step(3, 3), NO_SLACK);
        due("what below", x.step(0, -1), NO_SLACK);
        due("what above", x.step(0, 6), NO_SLACK);
        x.period(1);
        x.fall(0, 0);
        x.wire(-1, 2, 0);
        due("it shows what was shown", x.step(0, 4), 916);
        due("it shows what was shown", x.step(2, 3), 34);
        due("no path now", x.path(2, 0), BAD);
        due("it shows what was shown", x.step(1, 0), 1);
    }

    private static void promise26Common() {
        TimingHouse x = house(FLOP, FLOP, FLOP, PORT, END);
        x.node(-1, 1, 3);
        x.node(0, 10, 15);
        x.node(0, 20, 27);
        x.node(-1, 0, 9);
        x.target(0, 1, 0, 0);
        x.target(1, 2, 0, 0);
        due("node 0", x.common(0, 1), 2);
        due("node 0", x.common(1, 0), 2);
        due("nodes 0 and 1", x.common(0, 0), 7);
        due("the root alone", x.common(0, 2), 0);
        x.target(2, 0, 0, 0);
        due("on the way", x.common(2, 1), 2);
        x.target(2, 3, 0, 0);
        due("nothing", x.common(2, 1), 0);
        due("itself", x.common(2, 2), 9);
        due("PORT", x.common(3, 0), 0);
        due("END", x.common(0, 4), 0);
        due("no cell", x.common(5, 0), BAD);
        due("no cell", x.common(0, -1), BAD);
    }

    private static void promise27Least() {
        TimingHouse x = chain(PORT, BUFFER, END);
        x.period(7);
        due("below", x.least(0), BAD);
        due("above", x.least(1000001), BAD);
        due("ten", x.least(1000000), 10);
        due("just", x.least(10), 10);
        due("none", x.least(9), 0);
        due("the period stays", x.count(3), 7);
        x.target(2, -1, -9, 0);
        due("one at least", x.least(1), 1);
        x.target(2, -1, -10000, 0);
        due("one at least", x.least(5), 1);
        x.target(2, -1, 0, 0);
        x.except(3, 0, -1, -1);
        due("a third, rounded up", x.least(5), 4);
        x.except(4, 0, -1, -1);
        due("a fourth, rounded up", x.least(5), 3);
        x.except(0, 0, -1, -1);
        due("none told", x.least(5), 1);
    }

    private static void promise28Fix() {
        // Load 25 of the BUFFER: 110 by SIZE 0; 13, so 35, by SIZE 1; 9, so 15, by SIZE 2.
        TimingHouse x = chain(PORT, BUFFER, END);
        x.extra(1, 24);
        x.entry(0, 0, 2, 0, 90);
        x.entry(0, 0, 3, 0, 890);
        x.period(110);
        due("won already", x.fix(), 0);
        x.period(109);
        due("hold is less then, so none", x.fix(), 0);
        due("the SIZE stays", x.about(1, 2), 0);
        due("slack", x.slack(2), -1);
        // A second, shorter way keeps the worst hold slack where it is.
        int end = x.make(END, 0, 0);
        x.wire(0, end, 0);
        due("hold", x.worst(1), end);
        x.period(110);
        due("a slack of 0 is won", x.fix(), 0);
        x.period(109);
        due("one change", x.fix(), 1);
        due("SIZE", x.about(1, 2), 1);
        due("slack", x.slack(2), 109 - 35);
        x.period(20);
        due("one more", x.fix(), 1);
        due("slack", x.slack(2), 5);
        x.period(10);
        due("no SIZE is left", x.fix(), 0);
        due("slack", x.slack(2), -5);
        nextCellIsTried();
        targetIsNotTried();
        openIsNoGain();
        pathZeroIsTried();
    }

    /** At -50 FALLING goes by cell 1, at -40 by cell 2, then at 0 RISING by cell 1: only a greater cell 1 helps. */
    private static void pathZeroIsTried() {
        TimingHouse x = house(PORT, BUFFER, BUFFER, END, END);
        int other = x.make(GATE, 2, 1);
        x.wire(0, 1, 0);
        x.wire(0, 2, 0);
        x.wire(1, other, 0);
        x.wire(2, other, 1);
        x.wire(other, 3, 0);
        x.wire(0, 4, 0);
        x.fall(0, 50);
        x.extra(1, 23);
        x.extra(2, 21);
        x.entry(0, 0, 2, 0, 90);
        x.period(100);
        due("10 + 80 + 50 + 10", x.slack(3), -50);
        x.path(3, 1);
        due("path 1 goes by cell 2", x.step(1, 0), 2);
        due("-40", x.step(0, 4), -40);
        due("cell 1, then cell 2, once each", x.fix(), 2);
        due("cell 1", x.about(1, 2), 1);
        due("cell 2", x.about(2, 2), 1);
    }

    private static void nextCellIsTried() {
        // The first BUFFER drives so little that a greater one gains nothing; the second one does.
        TimingHouse x = chain(PORT, BUFFER, BUFFER, END);
        x.make(END, 0, 0);
        x.wire(0, 4, 0);
        x.extra(2, 23);
        x.entry(0, 0, 2, 0, 90);
        x.entry(0, 0, 2, 1, 90);
        x.period(39);
        x.path(4, 0);
        due("slow: 10 + 90", x.slack(3), -61);
        due("two changes", x.fix(), 2);
        due("the first stays", x.about(1, 2), 0);
        due("the second has them", x.about(2, 2), 2);
        due("slack: load 24 by 3 is 8", x.slack(3), 19);
        due("what step() shows stays", x.step(1, 0), 4);
    }

    private static void targetIsNotTried() {
        // A FLOP behind a FLOP: the greater START helps itself; the TARGET's SIZE would, too, but is not touched.
        TimingHouse x = house(FLOP, FLOP, PORT, END);
        x.wire(0, 1, 0);
        x.wire(2, 3, 0);
        x.extra(0, 23);
        x.entry(0, 0, 2, 0, 90);
        x.period(20);
        due("slack", x.slack(1), -70);
        // SIZE 1: 12 is 10 + 80 * 4 / 16 = 30; SIZE 2: 8 is 10.
        due("two changes", x.fix(), 2);
        due("START", x.about(0, 2), 2);
        due("TARGET", x.about(1, 2), 0);
        due("slack", x.slack(1), 10);
        x.size(0, 0);
        x.period(1);
        due("two changes, then none is left", x.fix(), 2);
        due("slack", x.slack(1), -9);
        due("TARGET", x.about(1, 2), 0);
        // A FLOP behind itself is grown as the START of the path.
        TimingHouse y = house(FLOP, PORT, END);
        y.wire(0, 0, 0);
        y.wire(1, 2, 0);
        y.extra(0, 23);
        y.entry(0, 0, 2, 0, 90);
        y.period(20);
        due("two changes", y.fix(), 2);
        due("SIZE", y.about(0, 2), 2);
    }

    private static void openIsNoGain() {
        // With SIZE 1 the load 12 asks for the row 8, which is missing: nothing would be told.
        TimingHouse x = chain(PORT, BUFFER, END);
        x.extra(1, 23);
        x.tear(0, 0, 1, 0);
        x.period(5);
        due("slack", x.slack(2), -5);
        due("none", x.fix(), 0);
        due("still told", x.told(2), 1);
        due("SIZE", x.about(1, 2), 0);
        // Where another TARGET is still told, one that is not any more is out of the race.
        int end = x.make(END, 0, 0);
        x.wire(0, end, 0);
        due("one", x.fix(), 1);
        due("open", x.told(2), 2);
        due("the other", x.worst(0), end);
    }

    private static void promise28FixLimits() {
        TimingHouse x = ladder(5);
        x.make(END, 0, 0);
        x.wire(0, 7, 0);
        x.extra(5, 23);
        x.entry(0, 0, 2, 0, 500);
        x.entry(0, 0, 2, 1, 500);
        x.period(1);
        due("1000 paths", x.paths(6), 1000);
        due("too many paths", x.fix(), 0);
        x.wire(-1, 1, 0);
        x.wire(-1, 1, 1);
        x.wire(-1, 2, 0);
        x.wire(-1, 2, 1);
        due("512 paths", x.paths(6), 512);
        due("the last gate gains; once more, and it would load the one ahead as much", x.fix(), 1);
        due("SIZE", x.about(5, 2), 1);
        // A chain of 49 gates on a FLOP, each of which gains by both SIZES.
        TimingHouse y = house(FLOP);
        for (int c = 1; c < 48; c++) {
            y.make(BUFFER, 1, 0);
            y.wire(c - 1, c, 0);
        }
        y.wire(47, 0, 0);
        y.make(PORT, 0, 0);
        y.make(END, 0, 0);
        y.wire(48, 49, 0);
        y.target(49, -1, 0, 10000);
        for (int c = 0; c < 48; c++) {
            y.extra(c, 60);
        }
        for (int column = 0; column < 3; column++) {
            y.entry(0, 0, 2, column, 1000);
            y.entry(0, 0, 3, column, 3000);
        }
        y.period(1);
        due("all by two", y.fix(), 96);
        due("area", y.area(), 48 * 3);
    }

    private static void promise29Area() {
        TimingHouse x = new TimingHouse();
        x.make(PORT, 0, 0);
        x.make(END, 0, 0);
        due("PORT and END", x.area(), 0);
        x.make(GATE, 4, 0);
        due("GATE", x.area(), 4);
        x.make(TURNING, 3, 0);
        due("TURNING", x.area(), 7);
        x.make(BUFFER, 3, 0);
        due("BUFFER", x.area(), 8);
        x.make(FLOP, 3, 0);
        due("FLOP", x.area(), 9);
        x.size(2, 2);
        due("greater", x.area(), 17);
        x.size(5, 1);
        due("greater", x.area(), 18);
    }

    private static void promise30Count() {
        TimingHouse x = house(PORT, END, GATE);
        x.node(-1, 0, 0);
        x.node(-1, 0, 0);
        x.except(0, 0, -1, -1);
        x.period(77);
        due("cells", x.count(0), 3);
        due("nodes", x.count(1), 2);
        due("exceptions", x.count(2), 1);
        due("period", x.count(3), 77);
        due("below", x.count(-1), BAD);
        due("above", x.count(4), BAD);
        due("far above", x.count(MOST), BAD);
    }
}
