import java.lang.reflect.Method;
import java.lang.reflect.Modifier;
import java.util.ArrayList;
import java.util.Comparator;
import java.util.List;
import java.util.function.IntUnaryOperator;

/** What the tests with answers worked out by hand have in common: names for numbers, small nets, and the count of faults. */
abstract class Sheet {
    static final int BAD = -1;
    static final int KIND = -2;
    static final int FULL = -3;
    static final int RING = -4;
    static final int FREE = -5;
    static final int MISSING = -11;
    static final int ENDED = -12;
    static final int NO_ARRIVAL = -1000000;
    static final int NO_SLACK = 1000000000;
    static final int LEAST = Integer.MIN_VALUE;
    static final int MOST = Integer.MAX_VALUE;

    static final int PORT = 0;
    static final int GATE = 1;
    static final int TURNING = 2;
    static final int BUFFER = 3;
    static final int FLOP = 4;
    static final int END = 5;

    private static int wrong = 0;
    private static String test = "";

    static void due(String what, int got, int want) {
        if (got != want) {
            fault(what + " answered " + got + ", due is " + want);
        }
    }

    static void fault(String what) {
        wrong++;
        System.out.println(test + ": " + what);
    }

    /** At both ends of its range a number is taken; just outside it, and as far as can be, it is BAD. */
    static void range(String what, int least, int most, IntUnaryOperator call) {
        for (int v : new int[] {least - 1, most + 1, LEAST, MOST}) {
            due(what + " " + v, call.applyAsInt(v), BAD);
        }
        for (int v : new int[] {least, most}) {
            if (call.applyAsInt(v) == BAD) {
                fault(what + " " + v + " is BAD");
            }
        }
    }

    /** Runs every method whose name begins with the word and a number; each number from 1 to the last must have one. */
    static void runTests(Class<?> tests, String word, int last) throws ReflectiveOperationException {
        List<Method> found = new ArrayList<>();
        boolean[] has = new boolean[last + 1];
        for (Method m : tests.getDeclaredMethods()) {
            int number = numberOf(m, word);
            if (number > 0 && number <= last) {
                found.add(m);
                has[number] = true;
            }
        }
        found.sort(Comparator.<Method>comparingInt(m -> numberOf(m, word)).thenComparing(Method::getName));
        for (Method m : found) {
            test = m.getName();
            m.setAccessible(true);
            m.invoke(null);
        }
        for (int number = 1; number <= last; number++) {
            if (!has[number]) {
                test = word + number;
                fault("has no test");
            }
        }
        System.out.println(found.size() + " tests: "
                + (wrong == 0 ? "all answers are as due" : wrong + " answers are not as due"));
        if (wrong != 0) {
            System.exit(1);
        }
    }

    private static int numberOf(Method m, String word) {
        if (!Modifier.isStatic(m.getModifiers()) || m.getParameterCount() != 0 || !m.getName().startsWith(word)) {
            return 0;
        }
        String digits = m.getName().substring(word.length()).replaceAll("^([0-9]*).*$", "$1");
        return digits.isEmpty() ? 0 : Integer.parseInt(digits);
    }

    /** Makes cells of these kinds, gates with two inputs, all by table 0. */
    static TimingHouse house(int... kinds) {
        TimingHouse x = new TimingHouse();
        for (int kind : kinds) {
            x.make(kind, 2, 0);
        }
        return x;
    }

    /** The same, and each cell's first input takes the output of the cell before it. */
    static TimingHouse chain(int... kinds) {
        TimingHouse x = house(kinds);
        for (int c = 1; c < kinds.length; c++) {
            x.wire(c - 1, c, 0);
        }
        return x;
    }

    /** Gates in a row of four inputs each, by which 2 * 4 to the power of n paths go. */
    static TimingHouse ladder(int gates) {
        TimingHouse x = house(PORT);
        for (int c = 1; c <= gates; c++) {
            x.make(GATE, 4, 0);
            for (int i = 0; i < 4; i++) {
                x.wire(c - 1, c, i);
            }
        }
        x.make(END, 0, 0);
        x.wire(gates, gates + 1, 0);
        return x;
    }

    /** A new gate whose inputs take these outputs. */
    static int gate(TimingHouse x, int... sources) {
        int c = x.make(GATE, sources.length, 0);
        for (int i = 0; i < sources.length; i++) {
            x.wire(sources[i], c, i);
        }
        return c;
    }

    /** Sets all three numbers of a row. */
    static void fillRow(TimingHouse x, int part, int row, int v) {
        for (int column = 0; column < 3; column++) {
            x.entry(0, part, row, column, v);
        }
    }
}
