import java.io.IOException;
import java.lang.reflect.Constructor;
import java.lang.reflect.Field;
import java.lang.reflect.Method;
import java.lang.reflect.Modifier;
import java.nio.file.Files;
import java.nio.file.Path;
import java.util.ArrayList;
import java.util.List;
import java.util.TreeSet;

/** The document's public face: its class, constants, constructor and methods, and nothing more that can be seen. */
public final class FaceTest {
    private static final Path SOURCE = Path.of("src/main/java/ShootingDays.java");
    /** As the document writes them. */
    private static final List<String> METHODS = List.of(
        "scene(int minutes, int place, int light, int out, int players)",
        "player(int p, int pay, int gap)",
        "rent(int place, int r)",
        "spot(int place, int m)",
        "ahead(int a, int b)",
        "day(int most, int sun)",
        "about(int scene, int what)",
        "row(int day, int i)",
        "of(int day, int what)",
        "held(int player, int what)",
        "cost(int what)",
        "below()",
        "may(int scene, int day)",
        "put(int scene, int day)",
        "take(int scene)",
        "tidy(int day)",
        "trade(int a, int b)",
        "better()",
        "order()",
        "rain(int day)",
        "change(int day, int most, int sun)",
        "count(int what)");
    private static final List<String> OTHERS = List.of(
        "public final class ShootingDays {",
        "public static final int NONE = -1, BAD = -2, STATE = -3, FULL = -4;",
        "public ShootingDays() {");

    private static final List<String> faults = new ArrayList<>();

    public static void main(String[] args) throws IOException {
        checkText(Files.readString(SOURCE));
        checkClass();
        checkMethods();
        checkConstructors();
        checkFields();
        faults.forEach(System.out::println);
        System.out.println(faults.isEmpty() ? "the face is as due" : faults.size() + " faults");
        if (!faults.isEmpty()) {
            System.exit(1);
        }
    }

    private static void must(boolean holds, String fault) {
        if (!holds) {
            faults.add(fault);
        }
    }

    /** The names of parameters are not in the class: they are read off its text. */
    private static void checkText(String text) {
        for (String line : OTHERS) {
            must(text.contains(line), "the text has no line " + line);
        }
        for (String method : METHODS) {
            must(text.contains("    public int " + method + " {"), "the text has no method " + method);
        }
        must(!text.startsWith("package") && !text.contains("\npackage"), "the text has a package line");
    }

    private static void checkClass() {
        int modifiers = ShootingDays.class.getModifiers();
        must(Modifier.isPublic(modifiers) && Modifier.isFinal(modifiers), "the class is not public and final");
        must(ShootingDays.class.getSuperclass() == Object.class, "the class has another one above it");
        must(ShootingDays.class.getInterfaces().length == 0, "the class has interfaces");
    }

    private static void checkMethods() {
        TreeSet<String> due = new TreeSet<>();
        for (String method : METHODS) {
            due.add(method.replaceAll("int \\w+", "int"));
        }
        TreeSet<String> found = new TreeSet<>();
        for (Method method : ShootingDays.class.getDeclaredMethods()) {
            if (!Modifier.isPublic(method.getModifiers())) {
                must(Modifier.isPrivate(method.getModifiers()), method + " can be seen");
                must(METHODS.stream().noneMatch(one -> one.startsWith(method.getName() + "(")),
                    method + " has a name of the face");
                continue;
            }
            List<String> types = new ArrayList<>();
            for (Class<?> type : method.getParameterTypes()) {
                types.add(type.getName());
            }
            found.add(method.getName() + "(" + String.join(", ", types) + ")");
            must(method.getReturnType() == int.class, method + " does not answer an int");
            must(!Modifier.isStatic(method.getModifiers()), method + " is static");
        }
        must(found.equals(due), "the face has " + found + ", due is " + due);
    }

    private static void checkConstructors() {
        Constructor<?>[] constructors = ShootingDays.class.getDeclaredConstructors();
        must(constructors.length == 1 && constructors[0].getParameterCount() == 0
            && Modifier.isPublic(constructors[0].getModifiers()), "not just the one constructor");
    }

    private static void checkFields() {
        TreeSet<String> constants = new TreeSet<>();
        for (Field field : ShootingDays.class.getDeclaredFields()) {
            if (Modifier.isPublic(field.getModifiers())) {
                constants.add(field.getName());
                must(Modifier.isStatic(field.getModifiers()) && Modifier.isFinal(field.getModifiers())
                    && field.getType() == int.class, field + " is no constant of int");
            } else {
                must(Modifier.isPrivate(field.getModifiers()), field + " can be seen");
            }
        }
        must(constants.equals(new TreeSet<>(List.of("NONE", "BAD", "STATE", "FULL"))), "the constants are " + constants);
        must(ShootingDays.NONE == -1 && ShootingDays.BAD == -2 && ShootingDays.STATE == -3
            && ShootingDays.FULL == -4, "the constants have other values");
    }
}
