/** The boundary cases that the promises 1 to 30 of the document name: a test for each such sentence. */
public final class PromiseBoundaryTest extends Sheet {
    private static final int[] FAR_OUT = {LEAST, LEAST + 1, -1000000, -2, 50, 51, 1000000, MOST - 1, MOST};

    public static void main(String[] args) throws ReflectiveOperationException {
        runTests(PromiseBoundaryTest.class, "promise", 30);
    }

    // ---- the net

    private static void promise1ANewObjectHasNoCells() {
        TimingHouse x = new TimingHouse();
        due("count", x.count(0), 0);
        due("area", x.area(), 0);
        due("about", x.about(0, 0), BAD);
        due("wire", x.wire(-1, 0, 0), BAD);
        due("extra", x.extra(0, 0), BAD);
        due("size", x.size(0, 0), BAD);
        due("port", x.port(0, 0, 0, 0), BAD);
        due("target", x.target(0, -1, 0, 0), BAD);
        due("except", x.except(0, 0, -1, -1), BAD);
        due("takes", x.takes(0, 0), BAD);
        due("arrival", x.arrival(0, 0, 0), NO_ARRIVAL);
        due("told", x.told(0), BAD);
        due("slack", x.slack(0), NO_SLACK);
        due("hold", x.hold(0), NO_SLACK);
        due("paths", x.paths(0), BAD);
        due("path", x.path(0, 0), BAD);
        due("step", x.step(0, 0), NO_SLACK);
        due("common", x.common(0, 0), BAD);
        due("worst", x.worst(0), FREE);
        due("worst", x.worst(1), FREE);
        due("least", x.least(1), 1);
        due("fix", x.fix(), 0);
    }

    private static void promise1ANewObjectHasNoNodes() {
        TimingHouse x = house(FLOP);
        due("count", x.count(1), 0);
        due("target", x.target(0, 0, 0, 0), BAD);
        due("node", x.node(0, 0, 0), BAD);
        due("the first one", x.node(-1, 0, 0), 0);
    }

    private static void promise2ThereAreTheKinds0To5() {
        TimingHouse x = new TimingHouse();
        range("kind", 0, 5, kind -> x.make(kind, 1, 0));
        due("two were made", x.count(0), 2);
    }

    private static void promise2ThereAreTheTables0To7OfAnyKind() {
        for (int kind = 0; kind <= 5; kind++) {
            TimingHouse x = new TimingHouse();
            int of = kind;
            range("table of kind " + kind, 0, 7, table -> x.make(of, 1, table));
            due("two were made", x.count(0), 2);
        }
    }

    private static void promise2AGateHas1To4Inputs() {
        for (int kind = GATE; kind <= TURNING; kind++) {
            TimingHouse x = new TimingHouse();
            int of = kind;
            range("inputs of kind " + kind, 1, 4, inputs -> x.make(of, inputs, 0));
            due("one", x.about(0, 1), 1);
            due("four", x.about(1, 1), 4);
        }
    }

    private static void promise2OfOtherKindsInputsDoesNotCount() {
        int[] own = {0, 0, 0, 1, 1, 1};
        for (int kind : new int[] {PORT, BUFFER, FLOP, END}) {
            TimingHouse x = new TimingHouse();
            int[] asked = {LEAST, -1, 0, 1, 5, MOST};
            for (int c = 0; c < asked.length; c++) {
                due("kind " + kind + " with " + asked[c], x.make(kind, asked[c], 0), c);
                due("its own", x.about(c, 1), own[kind]);
            }
        }
    }

    private static void promise2FullAt50Cells() {
        TimingHouse x = new TimingHouse();
        for (int c = 0; c < 49; c++) {
            x.make(PORT, 0, 0);
        }
        due("the last one", x.make(FLOP, 0, 7), 49);
        for (int kind = 0; kind <= 5; kind++) {
            due("kind " + kind, x.make(kind, 1, 0), FULL);
        }
        due("the last one is of use", x.wire(49, 49, 0), FREE);
        due("the last one is of use", x.slack(49), 990);
    }

    private static void promise3TheCellItTookOrMinus5() {
        TimingHouse x = house(PORT, PORT, END);
        due("free before", x.wire(0, 2, 0), FREE);
        due("cell 0 before", x.wire(0, 2, 0), 0);
        due("cell 0 before", x.wire(1, 2, 0), 0);
        due("cell 1 before", x.wire(-1, 2, 0), 1);
        due("free before", x.wire(-1, 2, 0), FREE);
    }

    private static void promise3NoSuchCellsOrInput() {
        TimingHouse x = house(PORT, GATE, END);
        for (int c : FAR_OUT) {
            due("from " + c, x.wire(c, 1, 0), BAD);
            due("to " + c, x.wire(0, c, 0), BAD);
            due("input " + c, x.wire(0, 1, c), BAD);
            due("free, to " + c, x.wire(-1, c, 0), BAD);
        }
        due("from the next cell", x.wire(3, 1, 0), BAD);
        due("to the next cell", x.wire(0, 3, 0), BAD);
        due("to -1", x.wire(0, -1, 0), BAD);
        due("input -1", x.wire(0, 1, -1), BAD);
        due("the next input", x.wire(0, 1, 2), BAD);
        due("an END has one", x.wire(0, 2, 1), BAD);
        due("a PORT has none", x.wire(1, 0, 0), BAD);
        due("the last input", x.wire(0, 1, 1), FREE);
    }

    private static void promise3FromHasNoOutput() {
        TimingHouse x = house(GATE, FLOP, END, END);
        due("to a GATE", x.wire(2, 0, 0), KIND);
        due("to a FLOP", x.wire(2, 1, 0), KIND);
        due("to another END", x.wire(2, 3, 0), KIND);
    }

    private static void promise3ARingIsRefused() {
        TimingHouse x = chain(PORT, GATE, GATE);
        due("two cells", x.wire(2, 1, 1), RING);
        due("it stays free", x.takes(1, 1), FREE);
        due("in place of the PORT", x.wire(2, 1, 0), RING);
        due("the PORT stays", x.takes(1, 0), 0);
        x.wire(-1, 2, 0);
        due("now it is none", x.wire(2, 1, 0), 0);
    }

    private static void promise4ExtraIs0To1000() {
        TimingHouse x = house(PORT);
        range("extra", 0, 1000, v -> x.extra(0, v));
        due("what it was", x.extra(0, 0), 1000);
    }

    private static void promise4OfAnEndItIsKind() {
        TimingHouse x = house(END);
        due("in range", x.extra(0, 0), KIND);
        due("in range", x.extra(0, 1000), KIND);
        due("out of it", x.extra(0, 1001), BAD);
        due("no such cell", x.extra(1, 0), BAD);
        due("no such cell", x.extra(-1, 0), BAD);
    }

    private static void promise5SizeIs0To2() {
        TimingHouse x = house(FLOP);
        range("size", 0, 2, z -> x.size(0, z));
        due("what it was", x.size(0, 0), 2);
    }

    private static void promise5OfKind0Or5ItIsKind() {
        TimingHouse x = house(PORT, GATE, TURNING, BUFFER, FLOP, END);
        for (int c = 0; c < 6; c++) {
            due("kind " + c, x.size(c, 0), c == PORT || c == END ? KIND : 0);
        }
        due("no such cell", x.size(6, 0), BAD);
        due("no such cell", x.size(-1, 0), BAD);
    }

    private static void promise6EachIs0To100000() {
        TimingHouse x = house(PORT);
        range("early", 0, 100000, v -> x.port(0, v, 5, 6));
        due("early", x.arrival(0, 0, 1), 100000);
        range("late", 0, 100000, v -> x.port(0, 7, v, 6));
        due("late", x.arrival(0, 1, 0), 100000);
        due("early", x.arrival(0, 1, 1), 7);
        range("slope", 0, 100000, v -> x.port(0, 7, 5, v));
        due("late slope", x.arrival(0, 0, 2), 100000);
        due("early slope", x.arrival(0, 1, 3), 100000);
    }

    private static void promise6OfAnotherKindItIsKind() {
        TimingHouse x = house(PORT, GATE, TURNING, BUFFER, FLOP, END);
        for (int c = 1; c < 6; c++) {
            due("kind " + c, x.port(c, 0, 0, 0), KIND);
        }
        due("no such cell", x.port(6, 0, 0, 0), BAD);
        due("no such cell", x.port(-1, 0, 0, 0), BAD);
    }

    private static void promise7TheNodeIsOneOrTheRoot() {
        TimingHouse x = house(FLOP);
        due("none yet", x.target(0, 0, 0, 0), BAD);
        x.node(-1, 1, 2);
        x.node(-1, 3, 4);
        range("node", -1, 1, node -> x.target(0, node, 0, 0));
        due("it hangs on the last one", x.arrival(0, 0, 0), 14);
    }

    private static void promise7SetupAndHoldAreMinus10000To10000() {
        TimingHouse x = house(PORT, FLOP, END);
        for (int c = 1; c < 3; c++) {
            int of = c;
            x.wire(0, c, 0);
            range("setup", -10000, 10000, v -> x.target(of, -1, v, 5));
            due("slack", x.slack(c), -9000);
            due("hold slack", x.hold(c), -5);
            range("hold", -10000, 10000, v -> x.target(of, -1, 5, v));
            due("slack", x.slack(c), 995);
            due("hold slack", x.hold(c), -10000);
            x.target(c, -1, -10000, -10000);
            due("slack", x.slack(c), 11000);
            due("hold slack", x.hold(c), 10000);
        }
    }

    private static void promise7OfAnEndTheNodeMustBeTheRoot() {
        TimingHouse x = chain(PORT, END);
        x.node(-1, 3, 4);
        due("a node", x.target(1, 0, 1, 1), BAD);
        due("nothing changed", x.slack(1), 1000);
        due("no such node", x.target(1, 1, 1, 1), BAD);
        due("the root", x.target(1, -1, 1, 1), 0);
        due("changed", x.slack(1), 999);
    }

    private static void promise7NeitherFlopNorEndIsKind() {
        TimingHouse x = house(PORT, GATE, TURNING, BUFFER, FLOP, END);
        for (int c = 0; c < 6; c++) {
            due("kind " + c, x.target(c, -1, 0, 0), c == FLOP || c == END ? 0 : KIND);
        }
        due("no such cell", x.target(6, -1, 0, 0), BAD);
        due("no such cell", x.target(-1, -1, 0, 0), BAD);
    }

    // ---- tables, clock, corners

    private static void promise8TheNumberIs0To3000() {
        TimingHouse x = new TimingHouse();
        range("v", 0, 3000, v -> x.entry(0, 0, 0, 0, v));
        due("what it was", x.entry(0, 0, 0, 0, 0), 3000);
    }

    private static void promise8NoSuchTablePartRowOrNumber() {
        TimingHouse x = new TimingHouse();
        range("table", 0, 7, v -> x.entry(v, 0, 0, 0, 1));
        range("part", 0, 1, v -> x.entry(0, v, 0, 0, 1));
        range("row", 0, 3, v -> x.entry(0, 0, v, 0, 1));
        range("number", 0, 2, v -> x.entry(0, 0, 0, v, 1));
        due("the corner of all", x.entry(7, 1, 3, 2, 1), 10);
        due("a neighbour of a number stays", x.entry(0, 0, 0, 1, 1), 10);
        due("a neighbour of a row stays", x.entry(0, 0, 1, 0, 1), 10);
        due("the last number of the last table's first row stays", x.entry(7, 0, 0, 2, 1), 10);
    }

    private static void promise8AMissingRowTakesNoNumber() {
        TimingHouse x = new TimingHouse();
        x.tear(0, 1, 3, 0);
        for (int column = 0; column < 3; column++) {
            due("number " + column, x.entry(0, 1, 3, column, 5), MISSING);
        }
        x.tear(0, 1, 3, 3);
        for (int column = 0; column < 3; column++) {
            due("anew", x.entry(0, 1, 3, column, 5), 10);
        }
    }

    private static void promise8ARowThatHasEndedTakesNoNumberBehindItsEnd() {
        TimingHouse x = new TimingHouse();
        for (int left = 1; left < 3; left++) {
            x.tear(0, 0, left, left);
            for (int column = 0; column < 3; column++) {
                due("number " + column + " of " + left, x.entry(0, 0, left, column, 5), column < left ? 10 : ENDED);
            }
        }
    }

    private static void promise9LeftIs0To3() {
        TimingHouse x = new TimingHouse();
        range("left", 0, 3, left -> x.tear(0, 0, 0, left));
        range("table", 0, 7, v -> x.tear(v, 0, 0, 3));
        range("part", 0, 1, v -> x.tear(0, v, 0, 3));
        range("row", 0, 3, v -> x.tear(0, 0, v, 3));
    }

    private static void promise9WhatItWas() {
        TimingHouse x = new TimingHouse();
        int was = 3;
        for (int left : new int[] {3, 2, 1, 0, 0, 1, 2, 3, 0, 3, 1, 3}) {
            due("was", x.tear(3, 1, 2, left), was);
            was = left;
        }
        due("the row ahead stays", x.tear(3, 1, 1, 3), 3);
        due("the row behind stays", x.tear(3, 1, 3, 3), 3);
        due("the other part stays", x.tear(3, 0, 2, 3), 3);
    }

    private static void promise9NumbersThatComeAnewAre10AndOthersStay() {
        for (int less = 0; less <= 3; less++) {
            for (int more = less; more <= 3; more++) {
                TimingHouse x = new TimingHouse();
                for (int column = 0; column < 3; column++) {
                    x.entry(0, 0, 0, column, 70 + column);
                }
                x.tear(0, 0, 0, less);
                x.tear(0, 0, 0, more);
                for (int column = 0; column < more; column++) {
                    due(less + " to " + more, x.entry(0, 0, 0, column, 1), column < less ? 70 + column : 10);
                }
            }
        }
    }

    private static void promise10FallIs0To1000() {
        TimingHouse x = new TimingHouse();
        range("fall", 0, 1000, v -> x.fall(7, v));
        due("what it was", x.fall(7, 0), 1000);
        range("table", 0, 7, v -> x.fall(v, 1));
        due("the last table's", x.fall(7, 0), 1);
        due("the one ahead of it stays", x.fall(6, 0), 0);
    }

    private static void promise11CornersAre0To500Each() {
        TimingHouse x = chain(PORT, BUFFER);
        range("late", 0, 500, v -> x.corner(v, 0));
        due("late", x.arrival(1, 0, 0), 15);
        range("early", 0, 500, v -> x.corner(0, v));
        due("early", x.arrival(1, 0, 1), 5);
        due("late is 0 again", x.arrival(1, 0, 0), 10);
    }

    private static void promise12ThePeriodIs1To1000000() {
        TimingHouse x = new TimingHouse();
        range("period", 1, 1000000, x::period);
        due("what it was", x.period(1), 1000000);
        due("what it is", x.count(3), 1);
    }

    private static void promise13TheParentIsAnEarlierNodeOrTheRoot() {
        TimingHouse x = new TimingHouse();
        for (int n = 0; n < 10; n += 2) {
            int next = n;
            range("parent", -1, n - 1, parent -> x.node(parent, 0, 0));
            due("two more", x.count(1), next + 2);
        }
        due("not itself", x.node(10, 0, 0), BAD);
    }

    private static void promise13DelaysAreInOrderUpTo100000() {
        TimingHouse x = house(FLOP);
        int[][] bad = {{-1, 0}, {-1, -1}, {1, 0}, {0, -1}, {100000, 99999}, {0, 100001}, {100001, 100001}, {100001, 0},
            {LEAST, MOST}, {MOST, MOST}, {LEAST, LEAST}, {MOST, LEAST}, {0, MOST}, {LEAST, 0}};
        for (int[] b : bad) {
            due(b[0] + " and " + b[1], x.node(-1, b[0], b[1]), BAD);
        }
        int[][] good = {{0, 0}, {0, 100000}, {100000, 100000}, {7, 7}};
        for (int n = 0; n < good.length; n++) {
            due("good", x.node(-1, good[n][0], good[n][1]), n);
            x.target(0, n, 0, 0);
            due("early", x.arrival(0, 0, 1), good[n][0] + 10);
            due("late", x.arrival(0, 0, 0), good[n][1] + 10);
        }
    }

    private static void promise13FullAt20Nodes() {
        TimingHouse x = new TimingHouse();
        for (int n = 0; n < 20; n++) {
            due("made", x.node(n - 1, 0, 1), n);
        }
        due("on the last one", x.node(19, 0, 0), FULL);
        due("on the root", x.node(-1, 0, 0), FULL);
        due("on none", x.node(20, 0, 0), BAD);
        due("how many", x.count(1), 20);
    }

    private static void promise14NIs0Or2To4() {
        for (int n : new int[] {LEAST, -2, -1, 1, 5, 6, MOST}) {
            due("n " + n, chain(PORT, END).except(n, 0, -1, -1), BAD);
        }
        int[] slacks = {NO_SLACK, 0, 2000, 3000, 4000};
        for (int n : new int[] {0, 2, 3, 4}) {
            TimingHouse x = chain(PORT, END);
            due("n " + n, x.except(n, 0, -1, -1), 0);
            due("slack", x.slack(1), slacks[n]);
        }
    }

    private static void promise14EachIsACellOrAny() {
        for (int c : new int[] {LEAST, -2, 2, 50, MOST}) {
            TimingHouse x = chain(PORT, END);
            due("from " + c, x.except(0, c, 0, 1), BAD);
            due("through " + c, x.except(0, 0, c, 1), BAD);
            due("to " + c, x.except(0, 0, 0, c), BAD);
            due("none was told", x.count(2), 0);
        }
        TimingHouse x = chain(PORT, END);
        due("from the last", x.except(0, 1, -1, -1), 0);
        due("through the last", x.except(0, -1, 1, -1), 1);
        due("to the last", x.except(0, -1, -1, 1), 2);
        due("all three", x.except(0, 0, 0, 0), 3);
    }

    private static void promise14NotAllAreAny() {
        TimingHouse x = chain(PORT, END);
        for (int n : new int[] {0, 2, 3, 4}) {
            due("n " + n, x.except(n, -1, -1, -1), BAD);
        }
        due("none was told", x.count(2), 0);
    }

    private static void promise14FullAt4Exceptions() {
        TimingHouse x = chain(PORT, END);
        for (int n = 0; n < 4; n++) {
            due("told", x.except(2, 0, -1, -1), n);
        }
        due("a fifth", x.except(2, 0, -1, -1), FULL);
        due("a bad one", x.except(5, 0, -1, -1), BAD);
        due("one goes", x.unexcept(), 3);
        due("one comes", x.except(3, 0, -1, -1), 3);
        due("it holds", x.slack(1), 3000);
    }

    private static void promise15ThereIsNoneToGo() {
        TimingHouse x = chain(PORT, END);
        due("none", x.unexcept(), BAD);
        for (int n = 0; n < 4; n++) {
            x.except(2, 0, -1, -1);
        }
        for (int n = 3; n >= 0; n--) {
            due("left", x.unexcept(), n);
        }
        due("none", x.unexcept(), BAD);
        due("none", x.unexcept(), BAD);
        due("still none", x.count(2), 0);
    }

    // ---- what is told

    private static void promise16NoSuchCellOrWhat() {
        TimingHouse x = house(PORT, END);
        for (int c = 0; c < 2; c++) {
            for (int what : new int[] {LEAST, -1, 6, 7, MOST}) {
                due("what " + what, x.about(c, what), BAD);
            }
            for (int what = 0; what < 6; what++) {
                if (x.about(c, what) == BAD) {
                    fault("what " + what + " is BAD");
                }
            }
        }
        for (int c : FAR_OUT) {
            due("cell " + c, x.about(c, 0), BAD);
        }
        due("cell -1", x.about(-1, 0), BAD);
        due("the next cell", x.about(2, 0), BAD);
    }

    private static void promise16OfAnEnd() {
        TimingHouse x = chain(PORT, BUFFER, END);
        due("its LOAD is 0", x.about(2, 3), 0);
        due("its SIZE is 0", x.about(2, 2), 0);
        due("its input is reached", x.about(2, 4), 1);
        due("its input is not open", x.about(2, 5), 0);
        x.tear(0, 0, 0, 0);
        due("its input is open", x.about(2, 5), 1);
        x.wire(-1, 2, 0);
        due("its input is free", x.about(2, 4), 0);
        due("its input is free", x.about(2, 5), 0);
    }

    private static void promise16WhyItIsOpen() {
        TimingHouse x = house(PORT, GATE, TURNING, BUFFER, FLOP);
        for (int c = 1; c < 5; c++) {
            x.wire(0, c, 0);
        }
        for (int left = 0; left <= 3; left++) {
            x.port(0, 0, 0, 64);
            x.tear(0, 0, 0, left);
            int why = left == 0 ? MISSING : left < 3 ? ENDED : 0;
            due("a PORT is never open", x.about(0, 5), 0);
            for (int c = 1; c < 4; c++) {
                due("kind " + c + " with " + left, x.about(c, 5), why);
            }
            due("a FLOP asks at slope 0", x.about(4, 5), left == 0 ? MISSING : 0);
        }
    }

    private static void promise17NoSuchCellOrInput() {
        TimingHouse x = house(PORT, FLOP, END);
        int four = x.make(TURNING, 4, 0);
        for (int c : FAR_OUT) {
            due("cell " + c, x.takes(c, 0), BAD);
            due("input " + c, x.takes(four, c), BAD);
        }
        due("cell -1", x.takes(-1, 0), BAD);
        due("the next cell", x.takes(4, 0), BAD);
        due("a PORT has none", x.takes(0, 0), BAD);
        due("a FLOP has one", x.takes(1, 0), FREE);
        due("a FLOP has no more", x.takes(1, 1), BAD);
        due("an END has one", x.takes(2, 0), FREE);
        due("an END has no more", x.takes(2, 1), BAD);
        due("the last of four", x.takes(four, 3), FREE);
        due("no fifth", x.takes(four, 4), BAD);
    }

    private static void promise18NoSuchOutputEdgeOrWhat() {
        TimingHouse x = chain(PORT, BUFFER, END);
        for (int v : new int[] {LEAST, -1, 2, 3, MOST}) {
            due("edge " + v, x.arrival(1, v, 0), NO_ARRIVAL);
        }
        for (int v : new int[] {LEAST, -1, 4, 5, MOST}) {
            due("what " + v, x.arrival(1, 0, v), NO_ARRIVAL);
        }
        for (int c : FAR_OUT) {
            due("cell " + c, x.arrival(c, 0, 0), NO_ARRIVAL);
        }
        due("cell -1", x.arrival(-1, 0, 0), NO_ARRIVAL);
        due("the next cell", x.arrival(3, 0, 0), NO_ARRIVAL);
        due("an END has no output", x.arrival(2, 0, 0), NO_ARRIVAL);
        due("there", x.arrival(1, 1, 3), 10);
    }

    private static void promise18NotReachedOrOpen() {
        TimingHouse x = house(PORT, BUFFER, FLOP);
        for (int what = 0; what < 4; what++) {
            due("not reached", x.arrival(1, 0, what), NO_ARRIVAL);
            due("a FLOP is reached", x.arrival(2, 0, what), 10);
        }
        x.wire(0, 1, 0);
        x.tear(0, 0, 0, 0);
        for (int what = 0; what < 4; what++) {
            due("open", x.arrival(1, 1, what), NO_ARRIVAL);
            due("a FLOP that is open", x.arrival(2, 1, what), NO_ARRIVAL);
            due("a PORT is not", x.arrival(0, 1, what), 0);
        }
    }

    private static void promise18ExceptionsDoNotCount() {
        TimingHouse x = house(PORT, PORT);
        x.port(0, 50, 50, 0);
        int gate = gate(x, 0, 1);
        int end = x.make(END, 0, 0);
        x.wire(gate, end, 0);
        x.except(0, 0, -1, -1);
        due("late by 0, which is FALSE", x.arrival(gate, 0, 0), 60);
        due("slack by 1", x.slack(end), 990);
        x.except(0, 1, -1, -1);
        due("early by 1, which is FALSE", x.arrival(gate, 0, 1), 10);
        due("not told", x.told(end), 0);
    }

    /** A house with a cell of each kind, of which two are TARGETS. */
    private static TimingHouse allKinds() {
        TimingHouse x = house(PORT, GATE, TURNING, BUFFER, FLOP, END);
        x.wire(0, 4, 0);
        x.wire(0, 5, 0);
        return x;
    }

    private static void promise19NoSuchCellAndNoTarget() {
        TimingHouse x = allKinds();
        for (int c = 0; c < 6; c++) {
            due("kind " + c, x.told(c), c < FLOP ? KIND : 1);
        }
        for (int c : FAR_OUT) {
            due("cell " + c, x.told(c), BAD);
        }
        due("cell -1", x.told(-1), BAD);
        due("the next cell", x.told(6), BAD);
    }

    private static void promise20NotToldOrNoneSuch() {
        TimingHouse x = allKinds();
        for (int c = 0; c < 6; c++) {
            due("kind " + c, x.slack(c), c < FLOP ? NO_SLACK : 1000);
        }
        for (int c : FAR_OUT) {
            due("cell " + c, x.slack(c), NO_SLACK);
        }
        due("cell -1", x.slack(-1), NO_SLACK);
        due("the next cell", x.slack(6), NO_SLACK);
        x.wire(3, 4, 0);
        x.wire(-1, 5, 0);
        due("not reached", x.slack(4), NO_SLACK);
        due("free", x.slack(5), NO_SLACK);
        x.wire(0, 3, 0);
        due("reached", x.slack(4), 990);
        x.tear(0, 1, 0, 0);
        due("open", x.slack(4), NO_SLACK);
    }

    private static void promise21NotToldOrNoneSuch() {
        TimingHouse x = allKinds();
        for (int c = 0; c < 6; c++) {
            due("kind " + c, x.hold(c), c < FLOP ? NO_SLACK : 0);
        }
        for (int c : FAR_OUT) {
            due("cell " + c, x.hold(c), NO_SLACK);
        }
        due("cell -1", x.hold(-1), NO_SLACK);
        due("the next cell", x.hold(6), NO_SLACK);
        x.wire(3, 4, 0);
        x.wire(-1, 5, 0);
        due("not reached", x.hold(4), NO_SLACK);
        due("free", x.hold(5), NO_SLACK);
        x.wire(0, 3, 0);
        due("reached", x.hold(4), 10);
        x.tear(0, 0, 0, 0);
        due("open", x.hold(4), NO_SLACK);
    }

    private static void promise22AnotherHow() {
        TimingHouse x = allKinds();
        range("how", 0, 1, x::worst);
        range("how, in an empty house", 0, 1, new TimingHouse()::worst);
    }

    private static void promise22NoneIsTold() {
        TimingHouse x = allKinds();
        x.except(0, 0, -1, -1);
        due("slack", x.worst(0), FREE);
        due("hold slack", x.worst(1), FREE);
        x.unexcept();
        x.wire(4, 4, 0);
        x.wire(4, 5, 0);
        x.tear(0, 0, 0, 0);
        due("open", x.worst(0), FREE);
        due("open", x.worst(1), FREE);
    }

    private static void promise22OfSeveralTheLeast() {
        TimingHouse x = house(PORT, END, END, END);
        for (int c = 3; c > 0; c--) {
            x.wire(0, c, 0);
            due("slack", x.worst(0), c);
            due("hold slack", x.worst(1), c);
        }
        x.target(3, -1, 1, 0);
        due("slack", x.worst(0), 3);
        due("hold slack", x.worst(1), 1);
        x.target(2, -1, 1, 1);
        due("slack", x.worst(0), 2);
        due("hold slack", x.worst(1), 2);
    }

    /** A PORT, and gates by which 499 ways go to the last one. */
    private static TimingHouse manyWays() {
        TimingHouse x = house(PORT);
        int four = gate(x, 0, 0, 0, 0);
        int seven = gate(x, four, 0, 0, 0);
        int many = gate(x, seven, seven, seven, seven);
        many = gate(x, many, 0, 0, 0);
        many = gate(x, many, many, many, many);
        many = gate(x, many, many, many, many);
        gate(x, many, 0, 0, 0);
        return x;
    }

    private static void promise23AtMost1000() {
        TimingHouse x = manyWays();
        int end = x.make(END, 0, 0);
        x.wire(7, end, 0);
        due("2 * 499", x.paths(end), 998);
        int gate = gate(x, 7, 0);
        x.wire(gate, end, 0);
        due("2 * 500", x.paths(end), 1000);
        gate = gate(x, 7, 0, 0);
        x.wire(gate, end, 0);
        due("2 * 501", x.paths(end), 1000);
        due("far more", ladder(47).paths(48), 1000);
    }

    private static void promise23NoSuchCellAndNoTarget() {
        TimingHouse x = allKinds();
        for (int c = 0; c < 6; c++) {
            due("kind " + c, x.paths(c), c < FLOP ? KIND : 2);
        }
        for (int c : FAR_OUT) {
            due("cell " + c, x.paths(c), BAD);
        }
        due("cell -1", x.paths(-1), BAD);
        due("the next cell", x.paths(6), BAD);
        x.wire(-1, 5, 0);
        due("free", x.paths(5), 0);
    }

    private static void promise24ThereIsNoSuchPath() {
        TimingHouse x = allKinds();
        due("the first", x.path(5, 0), 2);
        due("the last", x.path(5, 1), 2);
        for (int k : new int[] {LEAST, -2, -1, 2, 3, 999, 1000, MOST}) {
            due("path " + k, x.path(5, k), BAD);
        }
        x.wire(-1, 5, 0);
        due("none at all", x.path(5, 0), BAD);
        for (int c : FAR_OUT) {
            due("cell " + c, x.path(c, 0), BAD);
        }
        due("cell -1", x.path(-1, 0), BAD);
        due("the next cell", x.path(6, 0), BAD);
    }

    private static void promise24NoneIsShownIfPathsIs1000() {
        TimingHouse x = manyWays();
        int end = x.make(END, 0, 0);
        x.wire(7, end, 0);
        due("the longest is the first", x.path(end, 0), 9);
        due("the shortest is the last", x.path(end, 997), 3);
        due("its EDGE", x.step(0, 2), 1);
        due("its input", x.step(1, 1), 3);
        due("there is none behind it", x.path(end, 998), BAD);
        int gate = gate(x, 7, 0);
        x.wire(gate, end, 0);
        due("the first of 1000", x.path(end, 0), BAD);
        due("the last of 1000", x.path(end, 999), BAD);
    }

    private static void promise24OfNoTargetItIsKind() {
        TimingHouse x = allKinds();
        for (int c = 0; c < FLOP; c++) {
            due("kind " + c, x.path(c, 0), KIND);
            due("kind " + c, x.path(c, MOST), KIND);
        }
    }

    private static void promise24ThenStepGoesOnToShowWhatItDid() {
        TimingHouse x = allKinds();
        due("nothing yet", x.path(5, 2), BAD);
        due("nothing yet", x.step(0, 0), NO_SLACK);
        x.path(5, 1);
        x.path(5, 2);
        due("after BAD", x.step(1, 0), 5);
        due("after BAD", x.step(1, 2), 1);
        x.path(1, 0);
        due("after KIND", x.step(1, 0), 5);
        x.path(6, 0);
        due("after no cell", x.step(0, 4), 1000);
        x.path(4, 0);
        due("another is shown", x.step(1, 0), 4);
    }

    private static void promise25ThereIsNoneSuch() {
        TimingHouse x = chain(PORT, BUFFER, END);
        for (int what = 0; what < 6; what++) {
            due("none is shown", x.step(0, what), NO_SLACK);
        }
        x.path(2, 0);
        for (int i : new int[] {LEAST, -1, 3, 4, 50, 51, MOST}) {
            for (int what = 0; what < 4; what++) {
                due("cell " + i, x.step(i, what), NO_SLACK);
            }
        }
        for (int what : new int[] {LEAST, -1, 6, 7, MOST}) {
            due("what " + what, x.step(0, what), NO_SLACK);
            due("what " + what, x.step(-1, what), NO_SLACK);
        }
        due("the last one", x.step(2, 0), 2);
    }

    private static void promise25TheInputOfTheStartIsMinus1() {
        TimingHouse x = house(PORT, FLOP);
        int gate = gate(x, 0, 0, 0, 1);
        x.wire(gate, 1, 0);
        x.path(1, 0);
        due("START", x.step(0, 0), 1);
        due("even of a FLOP, whose input is wired", x.step(0, 1), -1);
        due("the last input", x.step(1, 1), 3);
        due("the TARGET's", x.step(2, 1), 0);
    }

    private static void promise25TheEdgeOfTheTargetIsThatOfItsInput() {
        TimingHouse x = chain(PORT, TURNING, TURNING, TURNING, END);
        for (int k = 0; k < 2; k++) {
            x.path(4, k);
            for (int i = 0; i < 4; i++) {
                due("EDGE", x.step(i, 2), (k + i) % 2);
            }
            due("of the TARGET", x.step(4, 2), x.step(3, 2));
            due("its arrival, too", x.step(4, 3), 30);
        }
    }

    private static void promise25SlackAndHoldSlackWhateverI() {
        TimingHouse x = house(END, BUFFER, PORT);
        x.wire(2, 1, 0);
        x.wire(1, 0, 0);
        x.port(2, 3, 5, 0);
        x.path(0, 1);
        for (int i : new int[] {LEAST, -1, 0, 2, 3, 51, MOST}) {
            due("slack at " + i, x.step(i, 4), 1000 - 15);
            due("hold slack at " + i, x.step(i, 5), 13);
        }
    }

    private static void promise26NoSuchCells() {
        TimingHouse x = house(FLOP, PORT);
        for (int c : FAR_OUT) {
            due("first " + c, x.common(c, 0), BAD);
            due("second " + c, x.common(0, c), BAD);
        }
        due("first -1", x.common(-1, 0), BAD);
        due("second -1", x.common(1, -1), BAD);
        due("the next cell", x.common(2, 2), BAD);
        due("both are there", x.common(0, 1), 0);
    }

    private static void promise26AllNodesInCommon() {
        TimingHouse x = house(FLOP, FLOP);
        for (int n = 0; n < 20; n++) {
            x.node(n - 1, 0, 100000);
        }
        x.target(0, 19, 0, 0);
        due("the other hangs on the root", x.common(0, 1), 0);
        x.target(1, 0, 0, 0);
        due("one", x.common(1, 0), 100000);
        x.target(1, 19, 0, 0);
        due("twenty", x.common(0, 1), 2000000);
    }

    private static void promise27MostIs1To1000000() {
        TimingHouse x = chain(PORT, END);
        range("most", 1, 1000000, x::least);
    }

    private static void promise27TheLeastPeriodFrom1UpToMost() {
        TimingHouse x = chain(PORT, END);
        int[] lates = {0, 1, 2, 100000};
        int[] needed = {1, 1, 2, 100000};
        for (int i = 0; i < lates.length; i++) {
            x.port(0, 0, lates[i], 0);
            due("late " + lates[i], x.least(needed[i]), needed[i]);
            due("late " + lates[i], x.least(1000000), needed[i]);
            if (needed[i] > 1) {
                due("late " + lates[i] + ", one less", x.least(needed[i] - 1), 0);
            }
        }
    }

    private static void promise27NoPeriodIsGreatEnough() {
        TimingHouse x = house(FLOP, END);
        for (int n = 0; n < 10; n++) {
            x.node(n - 1, 0, 100000);
        }
        x.wire(0, 1, 0);
        x.target(0, 9, 0, 0);
        due("1000010 is needed", x.least(1000000), 0);
        x.target(1, -1, -10, 0);
        due("1000000 is needed", x.least(1000000), 1000000);
        due("1000000 is needed", x.least(999999), 0);
        x.except(2, 0, -1, -1);
        due("half of it", x.least(1000000), 500000);
    }

    private static void promise27NIsDividedAndRoundedUp() {
        for (int n = 2; n <= 4; n++) {
            TimingHouse x = chain(PORT, END);
            x.except(n, 0, -1, -1);
            for (int late = 0; late <= 9; late++) {
                x.port(0, 0, late, 0);
                due(late + " by " + n, x.least(10), Math.max(1, (late + n - 1) / n));
            }
        }
    }

    private static void promise27NoTargetIsTold() {
        TimingHouse x = chain(PORT, END);
        x.port(0, 0, 500, 0);
        x.except(0, 0, -1, -1);
        due("1 is enough", x.least(1), 1);
        due("1 is enough", x.least(1000000), 1);
    }

    private static void promise27ThePeriodStays() {
        TimingHouse x = chain(PORT, END);
        x.port(0, 0, 500, 0);
        x.period(3);
        due("least", x.least(1000), 500);
        due("period", x.count(3), 3);
        due("slack", x.slack(1), -497);
    }

    /**
     * A BUFFER with a load of 25 behind a PORT, and an END at the PORT that keeps the worst hold slack:
     * 110 by SIZE 0; 35 by SIZE 1 (a load of 13); 15 by SIZE 2 (a load of 9).
     */
    private static TimingHouse slowBuffer() {
        TimingHouse x = chain(PORT, BUFFER, END);
        x.make(END, 0, 0);
        x.wire(0, 3, 0);
        x.extra(1, 24);
        x.entry(0, 0, 2, 0, 90);
        x.entry(0, 0, 3, 0, 890);
        return x;
    }

    private static void promise28ASlackOf0IsNotBelow0() {
        int[] periods = {110, 109, 35, 34, 15, 14};
        int[] changes = {0, 1, 1, 2, 2, 2};
        for (int i = 0; i < periods.length; i++) {
            TimingHouse x = slowBuffer();
            x.period(periods[i]);
            due("period " + periods[i], x.fix(), changes[i]);
            due("size", x.about(1, 2), changes[i]);
            due("once more", x.fix(), 0);
        }
    }

    private static void promise28NoTargetIsTold() {
        TimingHouse x = slowBuffer();
        x.period(1);
        x.except(0, 0, -1, -1);
        due("none", x.fix(), 0);
        due("size", x.about(1, 2), 0);
    }

    private static void promise28ASizeOf2GetsNoMore() {
        TimingHouse x = slowBuffer();
        x.period(1);
        x.size(1, 2);
        due("none", x.fix(), 0);
        x.size(1, 1);
        due("one", x.fix(), 1);
        due("size", x.about(1, 2), 2);
    }

    private static void promise28TheWorstSlackMustBeGreater() {
        // A greater BUFFER is no faster if all rows are the same.
        TimingHouse x = chain(PORT, BUFFER, END);
        x.extra(1, 24);
        x.period(1);
        due("the same slack", x.fix(), 0);
        due("size", x.about(1, 2), 0);
        // As slow a one in another table, which stays as it is: the worst slack is no greater.
        TimingHouse y = slowBuffer();
        int other = y.make(BUFFER, 0, 1);
        y.wire(0, other, 0);
        int end = y.make(END, 0, 0);
        y.wire(other, end, 0);
        fillOther(y, 110);
        y.period(100);
        due("both at -10", y.slack(end), y.slack(2));
        due("none", y.fix(), 0);
        fillOther(y, 109);
        due("one, then the other is the worst", y.fix(), 1);
        due("slack", y.slack(end), -9);
    }

    private static void fillOther(TimingHouse x, int v) {
        for (int row = 0; row < 4; row++) {
            x.entry(1, 0, row, 0, v);
        }
    }

    private static void promise28TheWorstHoldSlackMustNotBeLess() {
        // Early as late: 110, 30 (a load of 12), 10 (a load of 8) by the SIZES; the other END has 0 less its HOLD.
        int[] holds = {-29, -30, -31, -109, -110, -111};
        int[] changes = {1, 1, 0, 0, 0, 0};
        for (int i = 0; i < holds.length; i++) {
            TimingHouse x = slowBuffer();
            x.period(20);
            x.target(3, -1, 0, holds[i]);
            due("worst hold slack", x.hold(x.worst(1)), Math.min(110, -holds[i]));
            due("hold " + holds[i], x.fix(), changes[i]);
            due("size", x.about(1, 2), changes[i]);
        }
        TimingHouse y = house(FLOP);
        y.wire(0, 0, 0);
        y.extra(0, 23);
        y.entry(0, 0, 2, 0, 90);
        y.period(20);
        due("cell 0 has the worst hold slack", y.hold(0), 90);
        due("it would be 30", y.fix(), 0);
    }

    private static void promise28SomeTargetMustBeToldThen() {
        TimingHouse x = chain(PORT, BUFFER, END);
        x.extra(1, 23);
        x.tear(0, 0, 1, 0);
        x.period(5);
        due("a load of 12 asks for a row that is missing", x.fix(), 0);
        due("told", x.told(2), 1);
        int end = x.make(END, 0, 0);
        x.wire(0, end, 0);
        due("another TARGET is told then", x.fix(), 1);
        due("open", x.told(2), 2);
        due("nothing is below 0 any more", x.worst(0), end);
    }

    private static void promise28TheTargetIsNotTried() {
        // A greater TARGET loads the BUFFER more, and here that is faster, as the rows fall: 80 at a load of 1, 70 at 2.
        TimingHouse x = house(PORT, BUFFER, FLOP, PORT, END);
        x.wire(0, 1, 0);
        x.wire(1, 2, 0);
        x.wire(3, 4, 0);
        x.extra(1, 2);
        x.size(1, 2);
        fillRow(x, 0, 0, 90);
        fillRow(x, 0, 1, 10);
        x.period(20);
        due("3 by 3 is a load of 1", x.slack(2), -60);
        due("none", x.fix(), 0);
        due("the FLOP's SIZE", x.about(2, 2), 0);
        x.size(2, 1);
        due("4 by 3 is a load of 2, so it would have helped", x.slack(2), -50);
        due("nor did the hold slack stand against it", x.worst(1), 4);
    }

    private static void promise28ItEndsIfPathsIs1000() {
        for (int more = 0; more < 2; more++) {
            TimingHouse x = manyWays();
            x.make(END, 0, 0);
            x.wire(0, 8, 0);
            int last = more == 0 ? gate(x, 7) : gate(x, 7, 0);
            int end = x.make(END, 0, 0);
            x.wire(last, end, 0);
            x.extra(last, 23);
            fillRow(x, 0, 2, 500);
            x.period(300);
            due("paths", x.paths(end), more == 0 ? 998 : 1000);
            due("worst", x.worst(0), end);
            due("changes", x.fix() > 0 ? 1 : 0, 1 - more);
            due("size", x.about(last, 2) > 0 ? 1 : 0, 1 - more);
        }
    }

    private static void promise28ItEndsAfter100Changes() {
        // Fifty cells in a circle through one FLOP; loads of 17 to 19 give 2, then 1, then 0, and early always 0.
        TimingHouse x = house(FLOP);
        for (int c = 1; c < 50; c++) {
            x.make(BUFFER, 0, 0);
            x.wire(c - 1, c, 0);
        }
        x.wire(49, 0, 0);
        for (int c = 0; c < 50; c++) {
            x.extra(c, 16);
        }
        fillRow(x, 0, 0, 0);
        fillRow(x, 0, 1, 0);
        fillRow(x, 0, 2, 2);
        x.corner(500, 500);
        x.target(0, -1, 10000, 0);
        due("fifty times 2 and a half of it", x.slack(0), 1000 - 10000 - 150);
        due("hold slack", x.hold(0), 0);
        due("changes", x.fix(), 100);
        due("area", x.area(), 150);
        due("slack", x.slack(0), 1000 - 10000);
        due("none is left", x.fix(), 0);
    }

    private static void promise29OfPortsAndEndsNothing() {
        TimingHouse x = new TimingHouse();
        for (int c = 0; c < 50; c++) {
            x.make(c % 2 == 0 ? PORT : END, 4, 0);
        }
        due("area", x.area(), 0);
    }

    private static void promise29TheGreatestArea() {
        TimingHouse x = new TimingHouse();
        for (int c = 0; c < 50; c++) {
            x.make(GATE, 4, 0);
        }
        due("SIZE 0", x.area(), 200);
        for (int c = 0; c < 50; c++) {
            x.size(c, 2);
        }
        due("SIZE 2", x.area(), 600);
    }

    private static void promise30AnotherWhat() {
        TimingHouse x = house(PORT);
        x.node(-1, 0, 0);
        x.except(0, 0, -1, -1);
        range("what", 0, 3, x::count);
    }

    private static void promise30FromNoneToFull() {
        TimingHouse x = new TimingHouse();
        for (int c = 0; c < 51; c++) {
            due("cells", x.count(0), c);
            x.make(PORT, 0, 0);
        }
        due("cells", x.count(0), 50);
        for (int n = 0; n < 21; n++) {
            due("nodes", x.count(1), n);
            x.node(-1, 0, 0);
        }
        due("nodes", x.count(1), 20);
        for (int n = 0; n < 5; n++) {
            due("exceptions", x.count(2), n);
            x.except(0, 0, -1, -1);
        }
        due("exceptions", x.count(2), 4);
    }
}
