import java.lang.reflect.Executable;
import java.lang.reflect.Field;
import java.lang.reflect.InvocationTargetException;
import java.lang.reflect.Method;
import java.lang.reflect.Modifier;
import java.nio.file.Files;
import java.nio.file.Path;
import java.util.ArrayList;
import java.util.Arrays;
import java.util.Comparator;
import java.util.List;
import java.util.Random;
import java.util.Set;
import java.util.regex.Matcher;
import java.util.regex.Pattern;

/** The rules of LANGUAGE.md that a program can look at, in the source and in the classes compiled from it. */
public final class LanguageTest {
    private static final Path SOURCE = Path.of("src/main/java/TimingHouse.java");
    private static final Set<Class<?>> OTHER_TYPES = Set.of(
            int.class, long.class, boolean.class, void.class, int[].class, long[].class, boolean[].class);
    private static final Set<String> LIBRARY = Set.of("Arrays.fill", "Math.min", "Math.max");
    private static final int[] EXTREMES = {
        Integer.MIN_VALUE, Integer.MIN_VALUE + 1, -1000001, -13, -5, -2, -1, 49, 50, 51, 64, 999, 1000, 1001,
        100000, 1000000, 1000001, 536870912, 1073741824, Integer.MAX_VALUE - 1, Integer.MAX_VALUE};

    private static int wrong = 0;

    public static void main(String[] args) throws Exception {
        String code = withoutComments(Files.readString(SOURCE));
        rule2NoLambdas(code);
        rule4Library(code);
        rule6Words(code);
        rule11Lengths(code);
        for (Class<?> part : parts()) {
            rule2And3Types(part);
            rule5StaticFields(part);
            rule11Counts(part);
        }
        check("rule 11: the file has at most twelve classes", parts().size() <= 12);
        rule7NothingIsThrown();
        System.out.println(wrong == 0 ? "the rules are kept" : wrong + " rules are broken");
        if (wrong != 0) {
            System.exit(1);
        }
    }

    private static String withoutComments(String text) {
        return text.replaceAll("(?s)/\\*.*?\\*/", "").replaceAll("//[^\n]*", "");
    }

    private static List<Class<?>> parts() {
        List<Class<?>> all = new ArrayList<>(List.of(TimingHouse.class));
        all.addAll(List.of(TimingHouse.class.getDeclaredClasses()));
        return all;
    }

    private static void rule2NoLambdas(String code) {
        check("rule 2: no lambda", !code.contains("->"));
        check("rule 2: no method reference", !code.contains("::"));
        check("rule 2: no package", !Pattern.compile("\\bpackage\\b").matcher(code).find());
    }

    private static void rule4Library(String code) {
        Matcher imports = Pattern.compile("\\bimport\\s+([^;]*);").matcher(code);
        while (imports.find()) {
            check("rule 4: import " + imports.group(1), imports.group(1).equals("java.util.Arrays"));
        }
        Matcher calls = Pattern.compile("\\b(Arrays|Math|System|Integer|Long|String|Thread|Runtime)\\.\\w+").matcher(code);
        while (calls.find()) {
            check("rule 4: " + calls.group(), LIBRARY.contains(calls.group()));
        }
        check("rule 4: nothing by its full name", !code.replace("import java.util.Arrays;", "").contains("java."));
    }

    private static void rule6Words(String code) {
        for (String word : new String[] {"throw", "throws", "try", "catch", "finally", "synchronized", "assert"}) {
            check("rule 6: " + word, !Pattern.compile("\\b" + word + "\\b").matcher(code).find());
        }
        for (String word : new String[] {"equals", "hashCode", "toString", "static {"}) {
            check("rules 5 and 6: " + word, !code.contains(word));
        }
    }

    private static void rule2And3Types(Class<?> part) {
        check("rule 2: " + part + " is static", part == TimingHouse.class || Modifier.isStatic(part.getModifiers()));
        for (Field f : part.getDeclaredFields()) {
            check("rule 3: " + f, isAllowed(f.getType()));
        }
        for (Method m : part.getDeclaredMethods()) {
            check("rule 3: " + m, isAllowed(m.getReturnType()));
        }
    }

    private static boolean isAllowed(Class<?> type) {
        return OTHER_TYPES.contains(type) || parts().contains(type);
    }

    private static void rule5StaticFields(Class<?> part) {
        for (Field f : part.getDeclaredFields()) {
            check("rule 5: " + f, !Modifier.isStatic(f.getModifiers()) || Modifier.isFinal(f.getModifiers()));
        }
    }

    private static void rule11Counts(Class<?> part) {
        long fields = Arrays.stream(part.getDeclaredFields()).filter(f -> !Modifier.isStatic(f.getModifiers())).count();
        check("rule 11: " + part + " has at most twenty fields", fields <= 20);
        List<Executable> calls = new ArrayList<>(List.of(part.getDeclaredMethods()));
        calls.addAll(List.of(part.getDeclaredConstructors()));
        for (Executable call : calls) {
            check("rule 11: " + call + " has at most seven parameters", call.getParameterCount() <= 7);
        }
    }

    /** A method goes from a line with its head to the brace that stands under it. */
    private static void rule11Lengths(String code) {
        String head = "";
        int length = 0;
        for (String line : code.split("\n")) {
            if (line.matches("( {4}| {8})\\S.*\\) \\{")) {
                head = line;
                length = 0;
            }
            length++;
            String indent = head.replaceAll("\\S.*", "");
            if (!head.isEmpty() && line.equals(indent + "}")) {
                check("rule 11: " + head.trim() + " has " + length + " lines", length <= 60);
                head = "";
            }
        }
    }

    /** Far more calls than an object is promised to bear, with numbers as far out as can be among them. */
    private static void rule7NothingIsThrown() throws IllegalAccessException {
        Method[] calls = Arrays.stream(TimingHouse.class.getDeclaredMethods())
                .filter(m -> Modifier.isPublic(m.getModifiers()))
                .sorted(Comparator.comparing(Method::getName)).toArray(Method[]::new);
        for (int run = 0; run < 20; run++) {
            Random random = new Random(run);
            TimingHouse x = new TimingHouse();
            for (int i = 0; i < 9000; i++) {
                Method call = calls[random.nextInt(calls.length)];
                Object[] numbers = new Object[call.getParameterCount()];
                int wild = random.nextInt(4) == 0 ? 2 : 12;
                for (int n = 0; n < numbers.length; n++) {
                    numbers[n] = random.nextInt(wild) == 0 ? EXTREMES[random.nextInt(EXTREMES.length)] : tame(random);
                }
                answer(x, call, numbers);
            }
        }
    }

    private static int tame(Random random) {
        return random.nextInt(3) == 0 ? random.nextInt(50) : random.nextInt(5);
    }

    private static void answer(TimingHouse x, Method call, Object[] numbers) throws IllegalAccessException {
        try {
            call.invoke(x, numbers);
        } catch (InvocationTargetException e) {
            check("rule 7: " + call.getName() + Arrays.toString(numbers) + " threw " + e.getCause(), false);
        }
    }

    private static void check(String what, boolean holds) {
        if (!holds) {
            wrong++;
            System.out.println("not so: " + what);
        }
    }
}
