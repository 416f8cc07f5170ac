import java.nio.file.Files;
import java.nio.file.Path;
import java.util.regex.Matcher;
import java.util.regex.Pattern;
import javax.tools.ToolProvider;

/** The example in README.md compiles, and each call answers the number with which its comment begins. */
public final class ReadmeTest {
    private static final Pattern TOLD = Pattern.compile("(house\\.[^;]*);\\s*// (-?\\d+): .*");
    private static final Path OUT = Path.of("build/readme");

    public static void main(String[] args) throws Exception {
        StringBuilder body = new StringBuilder();
        int told = 0;
        for (String line : example().split("\n")) {
            Matcher m = TOLD.matcher(line);
            if (m.matches()) {
                told++;
                body.append("due(\"").append(m.group(1)).append("\", ").append(m.group(1)).append(", ")
                        .append(m.group(2)).append(");\n");
            } else {
                body.append(line).append('\n');
            }
        }
        if (told == 0 || !runs(body.toString())) {
            System.out.println("the example in README.md is not as due");
            System.exit(1);
        }
        System.out.println(told + " answers of the example are as due");
    }

    private static String example() throws Exception {
        String text = Files.readString(Path.of("README.md"));
        int from = text.indexOf("```java\n") + "```java\n".length();
        return text.substring(from, text.indexOf("```", from));
    }

    private static boolean runs(String body) throws Exception {
        String code = "public final class Example {\n"
                + "static int wrong = 0;\n"
                + "static void due(String what, int got, int want) {\n"
                + "if (got != want) { wrong++; System.out.println(what + \" answered \" + got + \", README says \" + want); }\n"
                + "}\n"
                + "public static void main(String[] args) {\n" + body + "System.exit(wrong == 0 ? 0 : 1);\n}\n}\n";
        Files.createDirectories(OUT);
        Path file = OUT.resolve("Example.java");
        Files.writeString(file, code);
        String classes = System.getProperty("java.class.path");
        int compiled = ToolProvider.getSystemJavaCompiler().run(null, null, null,
                "-cp", classes, "-d", OUT.toString(), file.toString());
        if (compiled != 0) {
            return false;
        }
        String java = Path.of(System.getProperty("java.home"), "bin", "java").toString();
        String path = OUT + System.getProperty("path.separator") + classes;
        return new ProcessBuilder(java, "-cp", path, "Example").inheritIO().start().waitFor() == 0;
    }
}
