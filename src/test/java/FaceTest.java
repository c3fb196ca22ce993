import java.lang.reflect.Constructor;
import java.lang.reflect.Field;
import java.lang.reflect.Method;
import java.lang.reflect.Modifier;
import java.nio.file.Files;
import java.nio.file.Path;
import java.util.ArrayList;
import java.util.List;
import java.util.TreeSet;
import java.util.regex.Matcher;
import java.util.regex.Pattern;

/** The document's face, and those rules of LANGUAGE.md that can be read off the class or its text. */
public final class FaceTest {
    private static final String FACE = "scene5 player3 rent2 spot2 ahead2 day2 about2 row2 of2 held2 cost1 below0 may2 "
        + "put2 take1 tidy1 trade2 better0 order0 rain1 change3 count1";
    private static final String BANNED = "\\b(throw|throws|try|catch|finally|synchronized|assert|import|package"
        + "|protected|transient|volatile|native|System\\.(?!arraycopy)\\w+|Object|Exception|\\w+Exact)\\b|->|::";
    private static final int METHOD_LINES = 60;

    private static final List<String> faults = new ArrayList<>();

    public static void main(String[] args) throws Exception {
        checkMembers();
        for (Class<?> inside : ShootingDays.class.getDeclaredClasses()) {
            checkInside(inside);
        }
        checkText(Files.readString(Path.of("src/main/java/ShootingDays.java")));
        for (String fault : faults) {
            System.out.println(fault);
        }
        System.out.println(faults.isEmpty() ? "the face is as due" : faults.size() + " faults");
        if (!faults.isEmpty()) {
            System.exit(1);
        }
    }

    private static void must(boolean holds, String fault) {
        if (!holds) {
            faults.add(fault);
        }
    }

    private static void checkMembers() throws Exception {
        Class<?> face = ShootingDays.class;
        must(Modifier.isPublic(face.getModifiers()) && Modifier.isFinal(face.getModifiers()), "not public and final");
        TreeSet<String> due = new TreeSet<>(List.of(FACE.split(" ")));
        TreeSet<String> found = new TreeSet<>();
        for (Method method : face.getDeclaredMethods()) {
            if (Modifier.isPublic(method.getModifiers())) {
                found.add(method.getName() + method.getParameterCount());
                must(method.getReturnType() == int.class, method + " does not answer an int");
            } else {
                must(Modifier.isPrivate(method.getModifiers()), method + " can be seen");
                must(!FACE.matches(".*\\b" + method.getName() + "\\d.*"), method + " has a name of the face");
            }
        }
        must(found.equals(due), "the face has " + found + ", due is " + due);
        Constructor<?>[] constructors = face.getDeclaredConstructors();
        must(constructors.length == 1 && constructors[0].getParameterCount() == 0
            && Modifier.isPublic(constructors[0].getModifiers()), "not just the one constructor");
        int constants = 0;
        for (Field field : face.getDeclaredFields()) {
            if (Modifier.isPublic(field.getModifiers())) {
                constants++;
                must(Modifier.isStatic(field.getModifiers()) && Modifier.isFinal(field.getModifiers()),
                    field + " is no constant");
            } else {
                must(Modifier.isPrivate(field.getModifiers()), field + " can be seen");
            }
            checkStatic(field);
        }
        must(constants == 4, constants + " public constants");
        must(ShootingDays.NONE == -1 && ShootingDays.BAD == -2 && ShootingDays.STATE == -3
            && ShootingDays.FULL == -4, "the constants have other values");
    }

    private static void checkStatic(Field field) {
        must(!Modifier.isStatic(field.getModifiers()) || Modifier.isFinal(field.getModifiers()),
            field + " is static and not final");
    }

    private static void checkInside(Class<?> inside) {
        must(Modifier.isStatic(inside.getModifiers()), inside + " is not static");
        int fields = 0;
        for (Field field : inside.getDeclaredFields()) {
            checkStatic(field);
            fields += Modifier.isStatic(field.getModifiers()) ? 0 : 1;
        }
        must(fields <= 20, inside + " has " + fields + " fields");
        for (Method method : inside.getDeclaredMethods()) {
            must(method.getParameterCount() <= 7, method + " has too many parameters");
            must(!FACE.matches(".*\\b" + method.getName() + "\\d.*"), method + " has a name of the face");
        }
    }

    private static void checkText(String text) {
        String code = text.replaceAll("(?s)/\\*.*?\\*/", "").replaceAll("//[^\n]*", "");
        Matcher banned = Pattern.compile(BANNED).matcher(code);
        while (banned.find()) {
            must(false, "the text has " + banned.group());
        }
        must(ShootingDays.class.getDeclaredClasses().length <= 12, "too many classes");
        int begun = -1;
        String[] lines = text.split("\n");
        for (int i = 0; i < lines.length; i++) {
            if (lines[i].matches(" {4,8}\\S.*\\) \\{")) {
                begun = i;
            } else if (lines[i].matches(" {4,8}\\}") && begun >= 0) {
                must(i - begun <= METHOD_LINES, "a method of more than " + METHOD_LINES + " lines: " + lines[begun]);
                begun = -1;
            }
        }
    }
}
