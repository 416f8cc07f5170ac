import java.util.ArrayList;
import java.util.List;
import java.util.function.ToIntFunction;

/** The boundary cases that the sections 1 to 5 of the document name: a test for each such sentence. */
public final class SectionBoundaryTest extends Sheet {
    private static final int[] LOADS = {0, 8, 24, 64};
    private static final int[] SLOPES = {0, 16, 64};

    public static void main(String[] args) throws ReflectiveOperationException {
        runTests(SectionBoundaryTest.class, "section", 5);
    }

    // ======== 1 CELLS

    private static void section1CellsHaveTheNumbers0To49AsTheyWereMade() {
        TimingHouse x = new TimingHouse();
        due("no cell yet", x.about(0, 0), BAD);
        for (int c = 0; c < 50; c++) {
            due("made", x.make(c % 6, 1, 0), c);
            due("the next one is not there", x.about(c + 1, 0), BAD);
        }
        for (int c = 0; c < 50; c++) {
            due("kind of " + c, x.about(c, 0), c % 6);
        }
        due("one more", x.make(PORT, 0, 0), FULL);
        due("still none there", x.about(50, 0), BAD);
    }

    /** No room for more: PORTS but for the two cells at the ends of the row; a path through both has two periods. */
    private static TimingHouse fullHouse(int first, int last) {
        TimingHouse x = new TimingHouse();
        x.make(first, 4, 7);
        for (int c = 1; c < 49; c++) {
            x.make(PORT, 0, 0);
        }
        x.make(last, 4, 7);
        for (int n = 0; n < 20; n++) {
            x.node(n - 1, 0, 0);
        }
        x.except(3, -1, 0, -1);
        x.except(2, -1, 49, -1);
        x.except(4, 5, -1, -1);
        x.except(0, 5, 0, 0);
        return x;
    }

    private static void section1TheLastCellMayBeAPortOrAnEnd() {
        TimingHouse x = fullHouse(END, PORT);
        x.port(49, 7, 9, 0);
        due("wired", x.wire(49, 0, 0), FREE);
        due("slack", x.slack(0), 2000 - 9);
        due("hold slack", x.hold(0), 7);
        due("worst", x.worst(0), 0);
        due("worst", x.worst(1), 0);
        due("shown", x.path(0, 1), 2);
        due("START", x.step(0, 0), 49);
        due("TARGET", x.step(1, 0), 0);
        TimingHouse y = fullHouse(PORT, END);
        due("wired", y.wire(0, 49, 0), FREE);
        due("slack", y.slack(49), 2000);
        due("worst", y.worst(0), 49);
        due("shown", y.path(49, 1), 2);
        due("TARGET", y.step(1, 0), 49);
    }

    private static void section1TheFirstAndTheLastCellMayBeFlops() {
        TimingHouse x = fullHouse(FLOP, FLOP);
        x.wire(0, 49, 0);
        x.wire(49, 0, 0);
        x.target(49, 19, 5, 6);
        due("slack", x.slack(49), 2000 - 10 - 5);
        due("slack", x.slack(0), 2000 - 10);
        due("worst", x.worst(0), 49);
        due("worst", x.worst(1), 49);
        due("shown", x.path(0, 1), 2);
        due("START", x.step(0, 0), 49);
        x.tear(7, 0, 0, 0);
        due("open", x.told(0), 2);
        due("open", x.told(49), 2);
    }

    private static void section1TheFirstAndTheLastCellMayBeGates() {
        TimingHouse x = fullHouse(FLOP, GATE);
        for (int i = 0; i < 4; i++) {
            x.wire(0, 49, i);
        }
        due("wired", x.wire(49, 0, 0), FREE);
        due("a ring", x.wire(49, 49, 3), RING);
        due("load", x.about(0, 3), 4);
        due("slack", x.slack(0), 2000 - 20);
        due("shown", x.path(0, 3), 3);
        due("by its last input", x.step(1, 1), 3);
        TimingHouse y = fullHouse(TURNING, FLOP);
        for (int i = 0; i < 4; i++) {
            y.wire(49, 0, i);
        }
        y.wire(0, 49, 0);
        due("slack", y.slack(49), 2000 - 20);
        due("shown", y.path(49, 0), 3);
        due("the gate is cell 0", y.step(1, 0), 0);
        due("by its first input", y.step(1, 1), 0);
        due("TARGET", y.step(2, 0), 49);
        due("least period", y.least(1000), 10);
    }

    private static void section1EachKindHasItsInputs() {
        TimingHouse x = new TimingHouse();
        x.make(PORT, 4, 0);
        x.make(GATE, 1, 0);
        x.make(GATE, 4, 0);
        x.make(TURNING, 1, 0);
        x.make(TURNING, 4, 0);
        x.make(BUFFER, 4, 0);
        x.make(FLOP, 4, 0);
        x.make(END, 4, 0);
        int[] inputs = {0, 1, 4, 1, 4, 1, 1, 1};
        for (int c = 0; c < inputs.length; c++) {
            due("how many of " + c, x.about(c, 1), inputs[c]);
            for (int i = 0; i < inputs[c]; i++) {
                due("free at first", x.takes(c, i), FREE);
            }
            due("none ahead of the first of " + c, x.takes(c, -1), BAD);
            due("none behind the last of " + c, x.takes(c, inputs[c]), BAD);
            due("nor can one be wired", x.wire(0, c, inputs[c]), BAD);
        }
    }

    private static void section1AllButEndsHaveAnOutput() {
        TimingHouse x = house(PORT, GATE, TURNING, BUFFER, FLOP, END, END);
        int was = FREE;
        for (int c = 0; c < 5; c++) {
            due("an END takes it", x.wire(c, 6, 0), was);
            due("it has an EXTRA", x.extra(c, 1), 0);
            due("and a LOAD", x.about(c, 3), 2);
            was = c;
        }
        due("none takes that of an END", x.wire(5, 6, 0), KIND);
        due("not even itself", x.wire(5, 5, 0), KIND);
        due("no EXTRA", x.extra(5, 1), KIND);
        due("no LOAD", x.about(5, 3), 0);
        due("no arrival", x.arrival(5, 0, 0), NO_ARRIVAL);
    }

    private static void section1AnInputIsFreeOrTakesOneOutput() {
        TimingHouse x = house(PORT, PORT, GATE);
        due("free at first", x.takes(2, 1), FREE);
        x.wire(0, 2, 1);
        x.wire(1, 2, 1);
        due("the later one", x.takes(2, 1), 1);
        due("the earlier one is not loaded any more", x.about(0, 3), 0);
        due("the later one is", x.about(1, 3), 1);
        x.wire(-1, 2, 1);
        due("free again", x.takes(2, 1), FREE);
        due("nor is the later one", x.about(1, 3), 0);
    }

    private static void section1ASizeIs0To2And0AtFirst() {
        TimingHouse x = house(PORT, GATE, TURNING, BUFFER, FLOP, END);
        for (int c = 0; c < 6; c++) {
            due("at first", x.about(c, 2), 0);
        }
        for (int c = 1; c < 5; c++) {
            for (int z = 0; z < 3; z++) {
                x.size(c, z);
                due("size", x.about(c, 2), z);
            }
            due("no greater one", x.size(c, 3), BAD);
            due("it stays", x.about(c, 2), 2);
        }
        due("a PORT has none", x.size(0, 0), KIND);
        due("an END has none", x.size(5, 0), KIND);
    }

    private static void section1ARingOfOneCellWouldBe() {
        TimingHouse x = house(GATE, TURNING, BUFFER, FLOP);
        due("GATE", x.wire(0, 0, 1), RING);
        due("TURNING", x.wire(1, 1, 0), RING);
        due("BUFFER", x.wire(2, 2, 0), RING);
        due("a FLOP is in no ring", x.wire(3, 3, 0), FREE);
        due("nothing was wired", x.takes(0, 1), FREE);
    }

    private static void section1ARingOfTwoAndThreeCellsWouldBe() {
        TimingHouse x = house(GATE, TURNING, BUFFER);
        x.wire(0, 1, 1);
        due("two", x.wire(1, 0, 0), RING);
        x.wire(1, 2, 0);
        due("three", x.wire(2, 0, 1), RING);
        due("two of them", x.wire(2, 1, 0), RING);
        due("in place of what is there", x.wire(2, 1, 1), RING);
        due("the other way round is none", x.wire(0, 2, 0), 1);
        due("now 1 and 2 are side by side", x.wire(2, 1, 0), FREE);
        due("and 2 can't take 1", x.wire(1, 2, 0), RING);
    }

    private static void section1TheLongestRingWouldBe() {
        TimingHouse x = house(BUFFER);
        for (int c = 1; c < 50; c++) {
            x.make(BUFFER, 1, 0);
            due("a row", x.wire(c - 1, c, 0), FREE);
        }
        due("all fifty", x.wire(49, 0, 0), RING);
        due("forty-nine", x.wire(49, 1, 0), RING);
        due("cut in the middle", x.wire(-1, 25, 0), 24);
        due("then the last one leads to the first", x.wire(49, 0, 0), FREE);
        due("and the middle can't be closed", x.wire(24, 25, 0), RING);
    }

    private static void section1ARowThroughAFlopIsNoRing() {
        TimingHouse x = chain(GATE, FLOP, GATE);
        due("closed", x.wire(2, 0, 0), FREE);
        due("past the FLOP it would be one", x.wire(0, 2, 1), RING);
        due("the same row once more is none", x.wire(2, 0, 1), FREE);
    }

    private static void section1ExtraIs0AtFirst() {
        TimingHouse x = house(PORT, GATE, TURNING, BUFFER, FLOP);
        for (int c = 0; c < 5; c++) {
            due("load", x.about(c, 3), 0);
            due("extra", x.extra(c, 5), 0);
        }
    }

    private static void section1LoadCountsEachInputAndItsSize() {
        TimingHouse x = house(PORT, END, FLOP);
        x.make(GATE, 4, 0);
        x.wire(0, 1, 0);
        due("an END", x.about(0, 3), 1);
        x.wire(0, 2, 0);
        x.size(2, 2);
        due("a FLOP of SIZE 2", x.about(0, 3), 4);
        for (int i = 0; i < 4; i++) {
            x.wire(0, 3, i);
        }
        due("four inputs of one cell", x.about(0, 3), 8);
        x.size(3, 1);
        due("each has its cell's SIZE", x.about(0, 3), 12);
        x.wire(2, 2, 0);
        due("a FLOP that takes itself loads itself", x.about(2, 3), 3);
        due("and the PORT no more", x.about(0, 3), 9);
    }

    private static void section1TheGreatestLoad() {
        TimingHouse x = house(PORT);
        for (int c = 1; c < 50; c++) {
            x.make(TURNING, 4, 0);
            x.size(c, 2);
            for (int i = 0; i < 4; i++) {
                x.wire(0, c, i);
            }
        }
        x.extra(0, 1000);
        due("1000 and 49 * 4 * 3", x.about(0, 3), 1588);
    }

    // ======== 2 TABLES

    private static void section2NumbersAreAll10AtFirst() {
        TimingHouse x = new TimingHouse();
        for (int table = 0; table < 8; table++) {
            for (int part = 0; part < 2; part++) {
                for (int row = 0; row < 4; row++) {
                    for (int column = 0; column < 3; column++) {
                        due("number", x.entry(table, part, row, column, 11), 10);
                    }
                }
            }
        }
    }

    private static void section2ARowMayBeMissingOrEnd() {
        for (int left = 0; left <= 3; left++) {
            TimingHouse x = new TimingHouse();
            due("whole at first", x.tear(7, 1, 3, left), 3);
            for (int column = 0; column < 3; column++) {
                int want = left == 0 ? MISSING : column < left ? 10 : ENDED;
                due("number " + column + " of " + left, x.entry(7, 1, 3, column, 5), want);
            }
        }
    }

    /** A BUFFER behind a PORT, with a delay of 10 times its LOAD, as far as the rows go. */
    private static TimingHouse byLoad(int load) {
        TimingHouse x = chain(PORT, BUFFER);
        x.extra(1, load);
        for (int row = 0; row < 4; row++) {
            fillRow(x, 0, row, 10 * LOADS[row]);
        }
        return x;
    }

    /** A BUFFER behind a PORT, with a delay of 10 times the PORT's slope, as far as the numbers go. */
    private static TimingHouse bySlope(int slope) {
        TimingHouse x = chain(PORT, BUFFER);
        x.port(0, 0, 0, slope);
        for (int row = 0; row < 4; row++) {
            for (int column = 0; column < 3; column++) {
                x.entry(0, 0, row, column, 10 * SLOPES[column]);
            }
        }
        return x;
    }

    private static void section2ALoadAbove64IsTakenAs64() {
        for (int load : new int[] {63, 64, 65, 1000}) {
            TimingHouse x = byLoad(load);
            due("late at " + load, x.arrival(1, 0, 0), 10 * Math.min(64, load));
            due("early at " + load, x.arrival(1, 0, 1), 10 * Math.min(64, load));
            x.tear(0, 0, 2, 0);
            due("the row 24 is asked for below 64 alone", x.about(1, 5), load < 64 ? MISSING : 0);
        }
    }

    private static void section2ASlopeAbove64IsTakenAs64() {
        for (int slope : new int[] {63, 64, 65, 100000}) {
            TimingHouse x = bySlope(slope);
            due("late at " + slope, x.arrival(1, 0, 0), 10 * Math.min(64, slope));
            due("early at " + slope, x.arrival(1, 0, 1), 10 * Math.min(64, slope));
        }
    }

    private static void section2TheLastNumberOfTheLastTable() {
        TimingHouse x = house(PORT);
        x.make(BUFFER, 0, 7);
        x.wire(0, 1, 0);
        x.port(0, 0, 0, 65);
        x.extra(1, 65);
        x.entry(7, 0, 3, 2, 77);
        x.entry(7, 1, 3, 2, 88);
        due("delay", x.arrival(1, 0, 0), 77);
        due("slope", x.arrival(1, 0, 3), 88);
        x.tear(7, 1, 3, 2);
        due("without it", x.about(1, 5), ENDED);
    }

    private static void section2AtARowsOwnLoadItIsAskedForAlone() {
        for (int row = 0; row < 4; row++) {
            TimingHouse x = byLoad(LOADS[row]);
            for (int other = 0; other < 4; other++) {
                if (other != row) {
                    x.tear(0, 0, other, 0);
                    x.tear(0, 1, other, 0);
                }
            }
            due("not open", x.about(1, 5), 0);
            due("its number", x.arrival(1, 0, 0), 10 * LOADS[row]);
            x.tear(0, 0, row, 0);
            due("without it", x.about(1, 5), MISSING);
        }
    }

    private static void section2BetweenTwoLoadsBothRowsAreAskedFor() {
        int[] loads = {1, 7, 9, 23, 25, 63};
        for (int i = 0; i < loads.length; i++) {
            for (int row = 0; row < 4; row++) {
                TimingHouse x = byLoad(loads[i]);
                due("in proportion", x.arrival(1, 0, 0), 10 * loads[i]);
                due("in proportion", x.arrival(1, 1, 1), 10 * loads[i]);
                x.tear(0, 0, row, 0);
                boolean asked = row == i / 2 || row == i / 2 + 1;
                due("load " + loads[i] + " without row " + row, x.about(1, 5), asked ? MISSING : 0);
            }
        }
    }

    private static void section2OfNumbersLikewise() {
        int[] slopes = {0, 1, 15, 16, 17, 63, 64};
        int[] needed = {1, 2, 2, 2, 3, 3, 3};
        for (int i = 0; i < slopes.length; i++) {
            for (int left = 1; left <= 3; left++) {
                TimingHouse x = bySlope(slopes[i]);
                due("in proportion", x.arrival(1, 0, 0), 10 * slopes[i]);
                due("in proportion", x.arrival(1, 1, 1), 10 * slopes[i]);
                x.tear(0, 0, 0, left);
                due("slope " + slopes[i] + " with " + left, x.about(1, 5), left < needed[i] ? ENDED : 0);
            }
        }
    }

    private static void section2OneFractionIsRoundedAtTheEnd() {
        // Load 4 and slope 8 are half-way: a quarter of the four numbers' sum.
        TimingHouse x = chain(PORT, BUFFER);
        x.extra(1, 4);
        x.port(0, 0, 0, 8);
        int[][] numbers = {{0, 0, 0, 0}, {1, 0, 0, 0}, {1, 0, 1, 0}, {1, 1, 1, 0}, {1, 1, 1, 1}, {3000, 3000, 3000, 2999}};
        int[] late = {0, 1, 1, 1, 1, 3000};
        int[] early = {0, 0, 0, 0, 1, 2999};
        for (int i = 0; i < numbers.length; i++) {
            for (int place = 0; place < 4; place++) {
                x.entry(0, 0, place / 2, place % 2, numbers[i][place]);
                x.entry(0, 1, place / 2, place % 2, numbers[i][place]);
            }
            due("delay, up", x.arrival(1, 0, 0), late[i]);
            due("delay, down", x.arrival(1, 0, 1), early[i]);
            due("slope, up", x.arrival(1, 0, 2), late[i]);
            due("slope, down", x.arrival(1, 0, 3), early[i]);
        }
    }

    private static void section2TheFirstThatIsNotThereTellsWhy() {
        // slope, what is left of the first row and of the second, why
        int[][] cases = {
            {0, 0, 0, MISSING}, {0, 1, 0, MISSING}, {0, 1, 1, 0}, {0, 3, 0, MISSING},
            {8, 0, 1, MISSING}, {8, 1, 0, ENDED}, {8, 2, 0, MISSING}, {8, 2, 1, ENDED}, {8, 2, 2, 0},
            {16, 0, 1, MISSING}, {16, 1, 0, ENDED}, {16, 2, 0, MISSING}, {16, 2, 1, ENDED}, {16, 2, 2, 0},
            {40, 1, 0, ENDED}, {40, 2, 0, ENDED}, {40, 3, 0, MISSING}, {40, 3, 1, ENDED}, {40, 3, 2, ENDED},
            {64, 2, 0, ENDED}, {64, 3, 0, MISSING}, {64, 3, 2, ENDED}, {64, 3, 3, 0}};
        for (int[] c : cases) {
            for (int first = 0; first < 3; first++) {
                for (int part = 0; part < 2; part++) {
                    TimingHouse x = chain(PORT, BUFFER);
                    x.extra(1, LOADS[first] + 1);
                    x.port(0, 0, 0, c[0]);
                    x.tear(0, part, first, c[1]);
                    x.tear(0, part, first + 1, c[2]);
                    due("slope " + c[0] + ", left " + c[1] + " and " + c[2], x.about(1, 5), c[3]);
                }
            }
        }
    }

    private static void section2CornersAndFallAre0AtFirst() {
        TimingHouse x = chain(PORT, BUFFER);
        for (int edge = 0; edge < 2; edge++) {
            due("late", x.arrival(1, edge, 0), 10);
            due("early", x.arrival(1, edge, 1), 10);
        }
        for (int table = 0; table < 8; table++) {
            due("fall", x.fall(table, 1), 0);
        }
    }

    // ======== 3 ARRIVALS

    private static void section3AnOutputIsReachedByOneInput() {
        TimingHouse x = house(PORT, FLOP, GATE, GATE, END);
        x.wire(2, 3, 0);
        x.wire(3, 4, 0);
        int[] atFirst = {1, 1, 0, 0, 0};
        for (int c = 0; c < 5; c++) {
            due("at first, cell " + c, x.about(c, 4), atFirst[c]);
        }
        x.wire(0, 2, 1);
        for (int c = 0; c < 5; c++) {
            due("by a PORT, cell " + c, x.about(c, 4), 1);
        }
        x.wire(1, 2, 1);
        due("by a FLOP", x.about(4, 4), 1);
        x.wire(-1, 2, 1);
        for (int c = 0; c < 5; c++) {
            due("again, cell " + c, x.about(c, 4), atFirst[c]);
        }
    }

    private static void section3AnInputThatIsNotReachedHasNoArc() {
        TimingHouse x = house(PORT, BUFFER, GATE);
        x.wire(1, 2, 0);
        due("nothing gets there", x.arrival(2, 0, 0), NO_ARRIVAL);
        x.tear(0, 0, 0, 0);
        due("nothing is looked up", x.about(2, 5), 0);
        x.wire(0, 2, 1);
        due("now it is", x.about(2, 5), MISSING);
        x.tear(0, 0, 0, 3);
        due("early by the one arc", x.arrival(2, 0, 1), 10);
        due("early slope by the one arc", x.arrival(2, 0, 3), 10);
    }

    private static void section3OfATurningGateToTheOtherEdge() {
        TimingHouse x = chain(FLOP, TURNING, END);
        x.fall(0, 5);
        due("FALLING to RISING", x.arrival(1, 0, 0), 15 + 10);
        due("RISING to FALLING", x.arrival(1, 1, 0), 10 + 15);
        due("slack", x.slack(2), 1000 - 25);
        due("hold slack", x.hold(2), 25);
        TimingHouse y = chain(FLOP, GATE, END);
        y.fall(0, 5);
        due("of a GATE to the same one", y.arrival(1, 0, 0), 10 + 10);
        due("of a GATE to the same one", y.arrival(1, 1, 0), 15 + 15);
        due("slack", y.slack(2), 1000 - 30);
        due("hold slack", y.hold(2), 20);
    }

    private static void section3TheLoadIsDividedByOneAndTheSize() {
        // load, size, then the loads that are looked up: late, early
        int[][] cases = {{0, 0, 0, 0}, {0, 2, 0, 0}, {1, 0, 1, 1}, {1, 1, 1, 0}, {1, 2, 1, 0}, {2, 1, 1, 1},
            {2, 2, 1, 0}, {3, 1, 2, 1}, {3, 2, 1, 1}, {4, 2, 2, 1}, {127, 1, 64, 63}, {128, 1, 64, 64},
            {190, 2, 64, 63}, {192, 2, 64, 64}, {1000, 2, 64, 64}};
        for (int[] c : cases) {
            TimingHouse x = byLoad(c[0]);
            x.size(1, c[1]);
            due("late, load " + c[0] + " by SIZE " + c[1], x.arrival(1, 0, 0), 10 * c[2]);
            due("early, load " + c[0] + " by SIZE " + c[1], x.arrival(1, 0, 1), 10 * c[3]);
        }
    }

    private static void section3AFlopIsLookedUpAtSlope0() {
        TimingHouse x = house(PORT, FLOP, BUFFER);
        x.port(0, 0, 0, 1);
        x.wire(0, 1, 0);
        x.wire(0, 2, 0);
        for (int part = 0; part < 2; part++) {
            for (int row = 0; row < 4; row++) {
                x.tear(0, part, row, 1);
            }
        }
        due("first numbers are enough", x.about(1, 5), 0);
        due("its delay", x.arrival(1, 1, 0), 10);
        due("not so for slope 1", x.about(2, 5), ENDED);
    }

    private static void section3CornersAreRoundedUpAndDown() {
        // delay, corners, late and early then
        int[][] cases = {{0, 500, 500, 0, 0}, {1, 0, 0, 1, 1}, {1, 1, 1, 2, 0}, {1, 500, 500, 2, 0}, {2, 500, 500, 3, 1},
            {3, 500, 500, 5, 1}, {999, 1, 1, 1000, 998}, {1000, 1, 1, 1001, 999}, {1001, 1, 1, 1003, 999},
            {3000, 500, 500, 4500, 1500}};
        for (int[] c : cases) {
            TimingHouse x = chain(PORT, BUFFER);
            x.entry(0, 0, 0, 0, c[0]);
            x.entry(0, 1, 0, 0, c[0]);
            x.corner(c[1], c[2]);
            due("late of " + c[0], x.arrival(1, 0, 0), c[3]);
            due("early of " + c[0], x.arrival(1, 0, 1), c[4]);
            due("a slope is as it is", x.arrival(1, 0, 2), c[0]);
            due("a slope is as it is", x.arrival(1, 0, 3), c[0]);
        }
    }

    private static void section3FallIsMoreAtAFallingOutputAlone() {
        TimingHouse x = house(PORT, GATE, TURNING, BUFFER, FLOP);
        for (int c = 1; c < 5; c++) {
            x.wire(0, c, 0);
        }
        x.fall(0, 1000);
        x.corner(500, 500);
        due("a PORT has none", x.arrival(0, 1, 0), 0);
        for (int c = 1; c < 5; c++) {
            due("late, rising", x.arrival(c, 0, 0), 15);
            due("late, falling", x.arrival(c, 1, 0), 1015);
            due("early, rising", x.arrival(c, 0, 1), 5);
            due("early, falling", x.arrival(c, 1, 1), 1005);
        }
    }

    private static void section3SlopesAreTheGreatestAndTheLeastOfTheArcs() {
        TimingHouse x = house(PORT, PORT, PORT);
        int[] slopes = {16, 0, 64};
        int[] numbers = {5, 20, 50};
        for (int c = 0; c < 3; c++) {
            x.port(c, 0, 0, slopes[c]);
            x.entry(0, 1, 0, c, numbers[c]);
        }
        int gate = gate(x, 0, 1, 2);
        due("greatest", x.arrival(gate, 0, 2), 50);
        due("least", x.arrival(gate, 1, 3), 5);
        x.wire(-1, gate, 1);
        due("greatest", x.arrival(gate, 1, 2), 50);
        due("least", x.arrival(gate, 0, 3), 20);
        x.wire(-1, gate, 2);
        due("one arc", x.arrival(gate, 0, 2), 20);
        due("one arc", x.arrival(gate, 0, 3), 20);
    }

    private static void section3OfAPortSlopesAreAsTold0AtFirst() {
        TimingHouse x = house(PORT);
        for (int edge = 0; edge < 2; edge++) {
            due("late", x.arrival(0, edge, 2), 0);
            due("early", x.arrival(0, edge, 3), 0);
        }
        x.port(0, 0, 0, 100000);
        for (int edge = 0; edge < 2; edge++) {
            due("late", x.arrival(0, edge, 2), 100000);
            due("early", x.arrival(0, edge, 3), 100000);
        }
    }

    private static void section3LookUpsGoInputByInput() {
        // Slope 0 asks for the first number, slope 1 for the second, too.
        TimingHouse x = house(PORT, PORT);
        int gate = gate(x, 0, 1);
        x.port(1, 0, 0, 1);
        x.tear(0, 0, 0, 1);
        x.tear(0, 1, 0, 0);
        due("input 0: its slope", x.about(gate, 5), MISSING);
        x.wire(1, gate, 0);
        x.wire(0, gate, 1);
        due("input 0: its delay", x.about(gate, 5), ENDED);
        x.wire(-1, gate, 0);
        due("input 1 alone: its slope", x.about(gate, 5), MISSING);
    }

    /** LOAD 15 by SIZE 1: late by row 8 alone, early by rows 0 and 8; slope 16 asks for the second number alone. */
    private static int whyOpen(int lateDelay, int lateSlope, int earlyDelay, int earlySlope) {
        TimingHouse x = chain(PORT, BUFFER);
        x.port(0, 0, 0, 16);
        x.extra(1, 15);
        x.size(1, 1);
        x.tear(0, 0, 1, lateDelay);
        x.tear(0, 1, 1, lateSlope);
        x.tear(0, 0, 0, earlyDelay);
        x.tear(0, 1, 0, earlySlope);
        return x.about(1, 5);
    }

    private static void section3OfAnArcTheFirstLookUpThatFailsTellsWhy() {
        due("LATE DELAY", whyOpen(0, 1, 1, 1), MISSING);
        due("LATE DELAY", whyOpen(1, 0, 0, 0), ENDED);
        due("LATE SLOPE", whyOpen(3, 0, 1, 1), MISSING);
        due("LATE SLOPE", whyOpen(3, 1, 0, 0), ENDED);
        due("EARLY DELAY", whyOpen(3, 3, 0, 1), MISSING);
        due("EARLY DELAY", whyOpen(3, 3, 1, 0), ENDED);
        due("EARLY SLOPE", whyOpen(3, 3, 3, 0), MISSING);
        due("EARLY SLOPE", whyOpen(3, 3, 3, 1), ENDED);
        due("none", whyOpen(3, 3, 3, 3), 0);
        due("the second number is there", whyOpen(2, 2, 2, 2), 0);
    }

    private static void section3AnOpenInputOpensACell() {
        TimingHouse x = house(PORT, FLOP, END);
        int torn = x.make(BUFFER, 0, 1);
        x.wire(0, torn, 0);
        x.tear(1, 1, 0, 0);
        int gate = gate(x, 0, torn);
        x.wire(torn, 1, 0);
        x.wire(torn, 2, 0);
        due("itself", x.about(torn, 5), MISSING);
        due("one input is enough", x.about(gate, 5), 1);
        due("a FLOP's output is not open by its input", x.about(1, 5), 0);
        due("an END is as its input", x.about(2, 5), 1);
        due("as a TARGET the FLOP is open", x.told(1), 2);
        x.tear(0, 0, 0, 0);
        due("an input is asked ahead of the look-ups", x.about(gate, 5), 1);
        x.wire(0, gate, 1);
        due("then the look-ups", x.about(gate, 5), MISSING);
    }

    private static void section3NothingIsToldOfAnOpenOutput() {
        TimingHouse x = chain(PORT, BUFFER, BUFFER, END);
        x.tear(0, 1, 0, 0);
        for (int c = 1; c < 3; c++) {
            for (int edge = 0; edge < 2; edge++) {
                for (int what = 0; what < 4; what++) {
                    due("open", x.arrival(c, edge, what), NO_ARRIVAL);
                }
            }
            due("it is reached all the same", x.about(c, 4), 1);
        }
        x.tear(0, 1, 0, 3);
        due("whole again", x.arrival(2, 1, 0), 20);
    }

    private static void section3ThePeriodIs1000AtFirst() {
        TimingHouse x = chain(PORT, END);
        due("period", x.count(3), 1000);
        due("slack", x.slack(1), 1000);
    }

    private static void section3NodesAre0To19() {
        TimingHouse x = house(FLOP);
        for (int n = 0; n < 20; n++) {
            due("not there yet", x.target(0, n, 0, 0), BAD);
            due("made", x.node(-1, n, n), n);
            due("there", x.target(0, n, 0, 0), 0);
            due("it hangs there", x.arrival(0, 0, 0), n + 10);
        }
        due("one more", x.node(-1, 0, 0), FULL);
        due("no such one", x.target(0, 20, 0, 0), BAD);
    }

    private static void section3EarlyAndLateAreSumsFromTheRoot() {
        TimingHouse x = house(FLOP);
        due("of the root 0, late", x.arrival(0, 0, 0), 10);
        due("of the root 0, early", x.arrival(0, 0, 1), 10);
        for (int n = 0; n < 20; n++) {
            x.node(n - 1, 99999, 100000);
        }
        x.target(0, 0, 0, 0);
        due("one, late", x.arrival(0, 0, 0), 100010);
        due("one, early", x.arrival(0, 0, 1), 100009);
        x.target(0, 19, 0, 0);
        due("twenty, late", x.arrival(0, 0, 0), 2000010);
        due("twenty, early", x.arrival(0, 0, 1), 1999990);
    }

    private static void section3FlopsAndEndsHangOnTheRootWithSetupAndHold0AtFirst() {
        TimingHouse x = house(PORT, FLOP, END);
        x.node(-1, 3, 4);
        for (int c = 1; c < 3; c++) {
            x.wire(0, c, 0);
            due("slack", x.slack(c), 1000);
            due("hold slack", x.hold(c), 0);
        }
    }

    // ======== 4 PATHS

    private static void section4APathMayHaveNoCellBetweenStartAndTarget() {
        TimingHouse x = chain(PORT, END);
        due("one at each EDGE", x.paths(1), 2);
        due("two cells", x.path(1, 0), 2);
        TimingHouse y = house(FLOP);
        y.wire(0, 0, 0);
        due("a FLOP to itself", y.paths(0), 2);
        due("two cells", y.path(0, 1), 2);
        due("START", y.step(0, 0), 0);
        due("TARGET", y.step(1, 0), 0);
        due("its input", y.step(1, 1), 0);
        due("its EDGE", y.step(1, 2), 1);
    }

    private static void section4APathEndsAtAFlop() {
        TimingHouse x = chain(PORT, FLOP, END);
        due("to the END from the FLOP alone", x.paths(2), 2);
        x.path(2, 0);
        due("START", x.step(0, 0), 1);
        x.wire(-1, 1, 0);
        due("even if nothing gets to the FLOP", x.paths(2), 2);
        due("whose own paths are none", x.paths(1), 0);
    }

    private static void section4APathWithAnOpenOutputDoesNotCount() {
        TimingHouse x = house(PORT);
        int torn = x.make(BUFFER, 0, 1);
        x.wire(0, torn, 0);
        int gate = gate(x, 0, torn);
        int end = x.make(END, 0, 0);
        x.wire(gate, end, 0);
        due("both ways", x.paths(end), 4);
        x.tear(1, 0, 0, 0);
        due("the gate is open, too, so none", x.paths(end), 0);
        due("none is shown", x.path(end, 0), BAD);
        x.wire(-1, gate, 1);
        due("the other way alone", x.paths(end), 2);
    }

    private static void section4ArrivalsOfAPortAre0AtFirst() {
        TimingHouse x = chain(PORT, END);
        due("late", x.arrival(0, 0, 0), 0);
        due("early", x.arrival(0, 1, 1), 0);
        x.port(0, 100000, 0, 0);
        due("slack by the late one", x.slack(1), 1000);
        due("hold slack by the early one", x.hold(1), 100000);
        x.port(0, 0, 100000, 0);
        due("slack by the late one", x.slack(1), -99000);
        due("hold slack by the early one", x.hold(1), 0);
    }

    private static void section4CommonIsOfTwoFlopsAlone() {
        TimingHouse x = house(PORT, FLOP, FLOP, END);
        x.node(-1, 10, 17);
        x.target(1, 0, 0, 0);
        x.target(2, 0, 0, 0);
        due("two FLOPS", x.common(1, 2), 7);
        due("from a PORT", x.common(0, 1), 0);
        due("to an END", x.common(1, 3), 0);
        x.wire(1, 2, 0);
        due("17 + 10 late; 1000 + 10 + 7", x.slack(2), 990);
        x.wire(0, 2, 0);
        due("from a PORT 1000 + 10", x.slack(2), 1010);
        x.wire(1, 3, 0);
        due("to an END 1000 - 27", x.slack(3), 973);
    }

    private static void section4CommonIsOfNodesOnBothWays() {
        TimingHouse x = house(FLOP, FLOP);
        x.node(-1, 0, 1);
        x.node(0, 0, 10);
        x.node(1, 0, 100);
        x.node(1, 0, 1000);
        x.node(-1, 0, 10000);
        int[][] cases = {{-1, -1, 0}, {-1, 2, 0}, {2, -1, 0}, {0, 0, 1}, {0, 2, 1}, {2, 0, 1}, {1, 2, 11}, {2, 3, 11},
            {3, 2, 11}, {2, 2, 111}, {3, 3, 1011}, {4, 3, 0}, {4, 4, 10000}};
        for (int[] c : cases) {
            x.target(0, c[0], 0, 0);
            x.target(1, c[1], 0, 0);
            due("nodes " + c[0] + " and " + c[1], x.common(0, 1), c[2]);
        }
    }

    private static void section4TheGreatestAndTheLeastSlack() {
        TimingHouse x = chain(PORT, FLOP, FLOP);
        for (int n = 0; n < 20; n++) {
            x.node(n - 1, 100000, 100000);
        }
        x.period(1000000);
        x.except(4, 0, -1, -1);
        x.target(1, 19, -10000, 10000);
        due("4 * 1000000 + 2000000 + 10000", x.slack(1), 6010000);
        due("0 - 2000000 - 10000", x.hold(1), -2010000);
        x.target(2, -1, 10000, -10000);
        x.period(1);
        due("1 - 10000 - 2000010", x.slack(2), -2010009);
        due("2000010 + 10000", x.hold(2), 2010010);
    }

    private static void section4ThereAreAtMost4Exceptions() {
        TimingHouse x = chain(PORT, END);
        for (int n = 0; n < 4; n++) {
            due("told", x.except(2, 0, -1, -1), n);
        }
        due("one more", x.except(0, 0, -1, -1), FULL);
        due("it does not hold", x.slack(1), 2000);
        due("how many", x.count(2), 4);
        x.unexcept();
        due("now there is room", x.except(0, 0, -1, -1), 3);
        due("it holds", x.told(1), 0);
    }

    private static void section4AnExceptionIsMetByAllItsCells() {
        int[][] cases = {{0, -1, -1, 1}, {1, -1, -1, 0}, {-1, 0, -1, 1}, {-1, 1, -1, 1}, {-1, 2, -1, 1}, {-1, 3, -1, 0},
            {-1, -1, 2, 1}, {-1, -1, 1, 0}, {-1, -1, 0, 0}, {0, 1, 2, 1}, {0, 3, 2, 0}, {2, -1, 2, 0}, {0, 0, 0, 0},
            {0, 2, 2, 1}, {0, 0, 2, 1}, {0, -1, 3, 0}};
        for (int[] c : cases) {
            TimingHouse x = chain(PORT, BUFFER, END);
            x.make(END, 0, 0);
            x.except(0, c[0], c[1], c[2]);
            due("from " + c[0] + " through " + c[1] + " to " + c[2], x.told(2), 1 - c[3]);
        }
    }

    private static void section4TheOneThatWasToldLastHolds() {
        TimingHouse x = chain(PORT, END);
        x.make(PORT, 0, 0);
        x.except(3, 0, -1, -1);
        due("three", x.slack(1), 3000);
        x.except(2, -1, -1, 1);
        due("two, though it is less", x.slack(1), 2000);
        x.except(4, 2, -1, -1);
        due("one that is not met does not hold", x.slack(1), 2000);
        x.except(0, -1, 0, -1);
        due("FALSE", x.slack(1), NO_SLACK);
        x.unexcept();
        x.unexcept();
        x.unexcept();
        due("the first again", x.slack(1), 3000);
        x.unexcept();
        due("n is 1", x.slack(1), 1000);
        x.except(0, 0, -1, -1);
        x.except(4, 0, -1, -1);
        due("periods behind FALSE", x.slack(1), 4000);
    }

    private static void section4ATargetIsOpenElseToldElseNot() {
        TimingHouse x = chain(PORT, BUFFER, END);
        due("told", x.told(2), 1);
        x.except(0, 0, -1, -1);
        due("not told", x.told(2), 0);
        x.tear(0, 0, 0, 0);
        due("open, though no path would count", x.told(2), 2);
        x.unexcept();
        due("open", x.told(2), 2);
        x.wire(-1, 2, 0);
        due("free: not told", x.told(2), 0);
    }

    private static void section4TheOrderGoesBySlackFirst() {
        TimingHouse x = house(PORT, PORT, PORT);
        x.port(0, 0, 5, 0);
        x.port(1, 0, 7, 0);
        x.port(2, 0, 6, 0);
        int gate = gate(x, 0, 1, 2);
        int end = x.make(END, 0, 0);
        x.wire(gate, end, 0);
        int[] starts = {1, 1, 2, 2, 0, 0};
        for (int k = 0; k < 6; k++) {
            due("cells", x.path(end, k), 3);
            due("START of " + k, x.step(0, 0), starts[k]);
            due("EDGE of " + k, x.step(0, 2), k % 2);
        }
        x.except(2, 1, -1, -1);
        x.path(end, 0);
        due("periods count", x.step(0, 0), 2);
        x.path(end, 5);
        due("periods count", x.step(0, 0), 1);
    }

    private static void section4TheOrderGoesByStartThenEdgeThenCellsAndInputs() {
        // All take 20: from 0 or 1 by input 0 or 1 of gate 2, or by gate 3, then by gate 4.
        TimingHouse x = house(PORT, PORT, GATE, GATE, GATE, END);
        x.wire(1, 2, 0);
        x.wire(0, 2, 1);
        x.wire(0, 3, 0);
        x.wire(0, 3, 1);
        x.wire(3, 4, 0);
        x.wire(2, 4, 1);
        x.wire(4, 5, 0);
        int[][] order = {{0, 0, 2, 1}, {0, 0, 3, 0}, {0, 0, 3, 1}, {0, 1, 2, 1}, {0, 1, 3, 0}, {0, 1, 3, 1},
            {1, 0, 2, 0}, {1, 1, 2, 0}};
        due("how many", x.paths(5), order.length);
        for (int k = 0; k < order.length; k++) {
            x.path(5, k);
            due("START of " + k, x.step(0, 0), order[k][0]);
            due("EDGE of " + k, x.step(0, 2), order[k][1]);
            due("cell of " + k, x.step(1, 0), order[k][2]);
            due("input of " + k, x.step(1, 1), order[k][3]);
        }
    }

    // ======== 5 Answers

    private record Refused(String call, int due, ToIntFunction<TimingHouse> ask) {
    }

    /** A house in which everything is told, with no room for more nodes and EXCEPTIONS; a path is shown. */
    private static TimingHouse richHouse() {
        TimingHouse x = house(PORT, FLOP, GATE, TURNING, BUFFER, FLOP, END);
        int[][] wires = {{0, 2, 0}, {1, 2, 1}, {2, 3, 0}, {0, 3, 1}, {3, 4, 0}, {4, 5, 0}, {3, 6, 0}, {4, 1, 0}};
        for (int[] w : wires) {
            x.wire(w[0], w[1], w[2]);
        }
        for (int n = 0; n < 20; n++) {
            x.node(n - 1, n, 2 * n);
        }
        x.port(0, 3, 9, 16);
        x.target(1, 3, 4, 5);
        x.target(5, 4, 6, 7);
        x.target(6, -1, 8, 9);
        x.extra(2, 2);
        x.size(3, 1);
        x.size(4, 2);
        x.entry(0, 0, 0, 0, 30);
        x.entry(0, 1, 1, 1, 20);
        x.entry(1, 1, 3, 2, 40);
        x.tear(1, 0, 0, 0);
        x.tear(1, 0, 1, 1);
        x.tear(1, 0, 2, 2);
        x.fall(0, 6);
        x.corner(50, 60);
        x.period(90);
        x.except(2, 0, -1, 5);
        x.except(3, 1, 3, -1);
        x.except(2, 1, 3, 1);
        x.except(4, -1, -1, 6);
        x.path(5, 1);
        return x;
    }

    /** All that can be asked; what can only be seen by changing it is changed at the end. */
    private static List<Integer> picture(TimingHouse x) {
        List<Integer> seen = new ArrayList<>();
        for (int c = 0; c < 7; c++) {
            for (int what = 0; what < 6; what++) {
                seen.add(x.about(c, what));
            }
            for (int at = 0; at < 8; at++) {
                seen.add(x.arrival(c, at / 4, at % 4));
            }
            seen.addAll(List.of(x.takes(c, 0), x.takes(c, 1), x.told(c), x.slack(c), x.hold(c), x.paths(c)));
        }
        for (int i = 0; i < 6; i++) {
            for (int what = 0; what < 6; what++) {
                seen.add(x.step(i, what));
            }
        }
        seen.addAll(List.of(x.worst(0), x.worst(1), x.common(1, 5), x.least(1000000), x.area(), x.count(0), x.count(1)));
        for (int c = 0; c < 7; c++) {
            seen.addAll(List.of(x.extra(c, 0), x.size(c, 0)));
        }
        for (int row = 0; row < 16; row++) {
            for (int column = 0; column < 3; column++) {
                seen.add(x.entry(row / 8, row / 4 % 2, row % 4, column, 1));
            }
            seen.add(x.tear(row / 8, row / 4 % 2, row % 4, 3));
        }
        seen.addAll(List.of(x.fall(0, 0), x.fall(1, 0), x.period(1), x.fix(), x.unexcept(), x.unexcept(), x.unexcept(),
                x.unexcept(), x.unexcept(), x.node(-1, 0, 0), x.make(PORT, 0, 0)));
        return seen;
    }

    private static void seeNoChange(Refused[] calls) {
        List<Integer> want = picture(richHouse());
        for (int c : new int[] {1, 5, 6}) {
            due("all is told in that house", richHouse().told(c), 1);
        }
        due("a path is shown in it", richHouse().step(1, 0), 2);
        for (Refused r : calls) {
            TimingHouse x = richHouse();
            due(r.call, r.ask.applyAsInt(x), r.due);
            if (!picture(x).equals(want)) {
                fault(r.call + " changed something");
            }
        }
    }

    private static void section5ARefusedCallOfTheNetChangesNothing() {
        seeNoChange(new Refused[] {
            new Refused("make(6, 1, 0)", BAD, x -> x.make(6, 1, 0)),
            new Refused("make(1, 5, 0)", BAD, x -> x.make(1, 5, 0)),
            new Refused("make(0, 0, 8)", BAD, x -> x.make(0, 0, 8)),
            new Refused("wire(7, 2, 0)", BAD, x -> x.wire(7, 2, 0)),
            new Refused("wire(-2, 2, 0)", BAD, x -> x.wire(-2, 2, 0)),
            new Refused("wire(0, 2, 2)", BAD, x -> x.wire(0, 2, 2)),
            new Refused("wire(0, 7, 0)", BAD, x -> x.wire(0, 7, 0)),
            new Refused("wire(-1, 0, 0)", BAD, x -> x.wire(-1, 0, 0)),
            new Refused("wire(6, 2, 0)", KIND, x -> x.wire(6, 2, 0)),
            new Refused("wire(4, 2, 0)", RING, x -> x.wire(4, 2, 0)),
            new Refused("wire(3, 3, 1)", RING, x -> x.wire(3, 3, 1)),
            new Refused("extra(2, 1001)", BAD, x -> x.extra(2, 1001)),
            new Refused("extra(2, -1)", BAD, x -> x.extra(2, -1)),
            new Refused("extra(6, 5)", KIND, x -> x.extra(6, 5)),
            new Refused("size(3, 3)", BAD, x -> x.size(3, 3)),
            new Refused("size(3, -1)", BAD, x -> x.size(3, -1)),
            new Refused("size(0, 1)", KIND, x -> x.size(0, 1)),
            new Refused("size(6, 1)", KIND, x -> x.size(6, 1)),
            new Refused("port(0, 100001, 1, 1)", BAD, x -> x.port(0, 100001, 1, 1)),
            new Refused("port(0, 1, 100001, 1)", BAD, x -> x.port(0, 1, 100001, 1)),
            new Refused("port(0, 1, 1, 100001)", BAD, x -> x.port(0, 1, 1, 100001)),
            new Refused("port(1, 1, 1, 1)", KIND, x -> x.port(1, 1, 1, 1)),
            new Refused("target(1, 20, 1, 1)", BAD, x -> x.target(1, 20, 1, 1)),
            new Refused("target(1, 0, 10001, 1)", BAD, x -> x.target(1, 0, 10001, 1)),
            new Refused("target(1, 0, 1, 10001)", BAD, x -> x.target(1, 0, 1, 10001)),
            new Refused("target(6, 0, 1, 1)", BAD, x -> x.target(6, 0, 1, 1)),
            new Refused("target(0, 0, 1, 1)", KIND, x -> x.target(0, 0, 1, 1))});
    }

    private static void section5ARefusedCallOfTablesClockAndCornersChangesNothing() {
        seeNoChange(new Refused[] {
            new Refused("entry(0, 0, 0, 0, 3001)", BAD, x -> x.entry(0, 0, 0, 0, 3001)),
            new Refused("entry(0, 0, 0, 3, 1)", BAD, x -> x.entry(0, 0, 0, 3, 1)),
            new Refused("entry(0, 0, 4, 0, 1)", BAD, x -> x.entry(0, 0, 4, 0, 1)),
            new Refused("entry(1, 0, 0, 0, 1)", MISSING, x -> x.entry(1, 0, 0, 0, 1)),
            new Refused("entry(1, 0, 1, 1, 1)", ENDED, x -> x.entry(1, 0, 1, 1, 1)),
            new Refused("entry(1, 0, 2, 2, 1)", ENDED, x -> x.entry(1, 0, 2, 2, 1)),
            new Refused("tear(0, 0, 0, 4)", BAD, x -> x.tear(0, 0, 0, 4)),
            new Refused("tear(0, 0, 0, -1)", BAD, x -> x.tear(0, 0, 0, -1)),
            new Refused("tear(0, 2, 0, 0)", BAD, x -> x.tear(0, 2, 0, 0)),
            new Refused("fall(0, 1001)", BAD, x -> x.fall(0, 1001)),
            new Refused("fall(8, 1)", BAD, x -> x.fall(8, 1)),
            new Refused("corner(501, 1)", BAD, x -> x.corner(501, 1)),
            new Refused("corner(1, 501)", BAD, x -> x.corner(1, 501)),
            new Refused("period(0)", BAD, x -> x.period(0)),
            new Refused("period(1000001)", BAD, x -> x.period(1000001)),
            new Refused("node(-1, 2, 1)", BAD, x -> x.node(-1, 2, 1)),
            new Refused("node(20, 0, 0)", BAD, x -> x.node(20, 0, 0)),
            new Refused("node(-1, 0, 0)", FULL, x -> x.node(-1, 0, 0)),
            new Refused("except(1, 0, -1, -1)", BAD, x -> x.except(1, 0, -1, -1)),
            new Refused("except(0, -1, -1, -1)", BAD, x -> x.except(0, -1, -1, -1)),
            new Refused("except(0, 7, -1, -1)", BAD, x -> x.except(0, 7, -1, -1)),
            new Refused("except(0, 0, -1, -1)", FULL, x -> x.except(0, 0, -1, -1))});
    }

    private static void section5ARefusedQuestionChangesNothing() {
        seeNoChange(new Refused[] {
            new Refused("about(7, 0)", BAD, x -> x.about(7, 0)),
            new Refused("about(0, 6)", BAD, x -> x.about(0, 6)),
            new Refused("takes(0, 0)", BAD, x -> x.takes(0, 0)),
            new Refused("arrival(6, 0, 0)", NO_ARRIVAL, x -> x.arrival(6, 0, 0)),
            new Refused("told(2)", KIND, x -> x.told(2)),
            new Refused("slack(2)", NO_SLACK, x -> x.slack(2)),
            new Refused("worst(2)", BAD, x -> x.worst(2)),
            new Refused("paths(0)", KIND, x -> x.paths(0)),
            new Refused("path(5, -1)", BAD, x -> x.path(5, -1)),
            new Refused("path(5, 1000)", BAD, x -> x.path(5, 1000)),
            new Refused("path(7, 0)", BAD, x -> x.path(7, 0)),
            new Refused("path(2, 0)", KIND, x -> x.path(2, 0)),
            new Refused("step(9, 0)", NO_SLACK, x -> x.step(9, 0)),
            new Refused("common(1, 7)", BAD, x -> x.common(1, 7)),
            new Refused("least(0)", BAD, x -> x.least(0)),
            new Refused("least(1)", 0, x -> x.least(1)),
            new Refused("least(1000001)", BAD, x -> x.least(1000001)),
            new Refused("count(4)", BAD, x -> x.count(4))});
    }

    private static void section5ACellMoreThan50ChangesNothing() {
        TimingHouse x = chain(PORT, END);
        for (int c = 2; c < 50; c++) {
            x.make(BUFFER, 0, 0);
        }
        due("full", x.make(FLOP, 0, 1), FULL);
        due("how many", x.count(0), 50);
        due("area", x.area(), 48);
        due("the last one's kind", x.about(49, 0), BUFFER);
        due("the first one's kind", x.about(0, 0), PORT);
        due("slack", x.slack(1), 1000);
    }

    private static void section5BadIsNamedAheadOfKind() {
        TimingHouse x = house(PORT, GATE, END, FLOP);
        due("wire", x.wire(2, 1, 2), BAD);
        due("wire", x.wire(2, 4, 0), BAD);
        due("wire to a PORT, which has no input", x.wire(2, 0, 0), BAD);
        due("extra", x.extra(2, 1001), BAD);
        due("size", x.size(0, 3), BAD);
        due("port", x.port(1, 0, 0, -1), BAD);
        due("target: node", x.target(1, 0, 0, 0), BAD);
        due("target: setup", x.target(1, -1, 10001, 0), BAD);
        due("target: hold", x.target(0, -1, 0, -10001), BAD);
        due("path: k", x.path(1, -1), BAD);
    }

    private static void section5BadIsNamedAheadOfFull() {
        TimingHouse x = new TimingHouse();
        for (int c = 0; c < 50; c++) {
            x.make(GATE, 4, 0);
        }
        due("make: kind", x.make(6, 1, 0), BAD);
        due("make: inputs", x.make(GATE, 0, 0), BAD);
        due("make: table", x.make(PORT, 0, 8), BAD);
        for (int n = 0; n < 20; n++) {
            x.node(-1, 0, 0);
        }
        due("node: parent", x.node(20, 0, 0), BAD);
        due("node: delays", x.node(-1, 1, 0), BAD);
        for (int n = 0; n < 4; n++) {
            x.except(2, 0, -1, -1);
        }
        due("except: n", x.except(1, 0, -1, -1), BAD);
        due("except: cell", x.except(2, 50, -1, -1), BAD);
        due("except: all any", x.except(2, -1, -1, -1), BAD);
    }

    private static void section5BadIsNamedAheadOfRingMissingAndEnded() {
        TimingHouse x = house(GATE);
        due("wire", x.wire(0, 0, 2), BAD);
        x.tear(0, 0, 0, 0);
        x.tear(0, 0, 1, 1);
        due("a row that is missing", x.entry(0, 0, 0, 0, -1), BAD);
        due("a row that is missing", x.entry(0, 0, 0, 3, 0), BAD);
        due("a row that has ended", x.entry(0, 0, 1, 2, 3001), BAD);
        due("missing is not ended", x.entry(0, 0, 0, 2, 0), MISSING);
    }
}
