import java.lang.reflect.Constructor;
import java.lang.reflect.Field;
import java.lang.reflect.Method;
import java.lang.reflect.Modifier;
import java.util.Set;
import java.util.TreeSet;

/** The public face is the document's, and nothing more can be seen from outside. */
public final class FaceTest {
    private static final String[] METHODS = {
        "make 3", "wire 3", "extra 2", "size 2", "port 4", "target 4", "entry 5", "tear 4", "fall 2", "corner 2",
        "period 1", "node 3", "except 4", "unexcept 0", "about 2", "takes 2", "arrival 3", "told 1", "slack 1",
        "hold 1", "worst 1", "paths 1", "path 2", "step 2", "common 2", "least 1", "fix 0", "area 0", "count 1"};
    private static final String[] CONSTANTS = {"BAD -1", "KIND -2", "FULL -3", "RING -4", "MISSING -11", "ENDED -12"};

    private static int wrong = 0;

    public static void main(String[] args) throws Exception {
        same("methods", Set.of(METHODS), methodsSeen());
        same("constants", Set.of(CONSTANTS), constantsSeen());
        Constructor<?>[] makers = TimingHouse.class.getDeclaredConstructors();
        check("one constructor", makers.length == 1);
        check("it is public and takes nothing",
                Modifier.isPublic(makers[0].getModifiers()) && makers[0].getParameterCount() == 0);
        check("the class is public and final", Modifier.isPublic(TimingHouse.class.getModifiers())
                && Modifier.isFinal(TimingHouse.class.getModifiers()));
        privateNames();
        for (Class<?> inside : TimingHouse.class.getDeclaredClasses()) {
            check(inside + " is static", Modifier.isStatic(inside.getModifiers()));
        }
        System.out.println(wrong == 0 ? "the face is as due" : wrong + " faults in the face");
        if (wrong != 0) {
            System.exit(1);
        }
    }

    private static Set<String> methodsSeen() {
        Set<String> seen = new TreeSet<>();
        for (Method m : TimingHouse.class.getDeclaredMethods()) {
            if (!Modifier.isPrivate(m.getModifiers())) {
                seen.add(m.getName() + " " + m.getParameterCount());
                check(m + " is public", Modifier.isPublic(m.getModifiers()));
                check(m + " is of the object", !Modifier.isStatic(m.getModifiers()));
                check(m + " answers int", m.getReturnType() == int.class);
                for (Class<?> type : m.getParameterTypes()) {
                    check(m + " takes int", type == int.class);
                }
            }
        }
        return seen;
    }

    private static Set<String> constantsSeen() throws Exception {
        Set<String> seen = new TreeSet<>();
        for (Field f : TimingHouse.class.getDeclaredFields()) {
            boolean constant = Modifier.isStatic(f.getModifiers()) && Modifier.isFinal(f.getModifiers());
            if (Modifier.isPrivate(f.getModifiers())) {
                check(f + " is no static state", constant || !Modifier.isStatic(f.getModifiers()));
            } else {
                check(f + " is a public constant", constant && Modifier.isPublic(f.getModifiers()));
                seen.add(f.getName() + " " + f.getInt(null));
            }
        }
        return seen;
    }

    private static void privateNames() {
        Set<String> open = new TreeSet<>();
        for (String method : METHODS) {
            open.add(method.substring(0, method.indexOf(' ')));
        }
        for (Method m : TimingHouse.class.getDeclaredMethods()) {
            if (Modifier.isPrivate(m.getModifiers())) {
                check(m + " has a name of its own", !open.contains(m.getName()));
            }
        }
    }

    private static void same(String what, Set<String> due, Set<String> got) {
        check(what + " are " + got + ", due are " + new TreeSet<>(due), new TreeSet<>(due).equals(got));
    }

    private static void check(String what, boolean holds) {
        if (!holds) {
            wrong++;
            System.out.println("not so: " + what);
        }
    }
}
