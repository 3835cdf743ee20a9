import java.io.IOException;
import java.lang.reflect.Field;
import java.lang.reflect.Method;
import java.lang.reflect.Modifier;
import java.nio.file.Files;
import java.nio.file.Path;
import java.util.regex.Matcher;
import java.util.regex.Pattern;

/** Those rules of LANGUAGE.md that can be seen from the text of the class or from its members. */
final class LanguageTest {
    private static final Path SOURCE = Path.of("src/main/java/PointColours.java");

    /** Rules 2, 6 and 13; what the class does not use at all is barred here too. */
    private static final Pattern BARRED = Pattern.compile(
            "\\b(throw|throws|try|catch|finally|synchronized|assert|package|instanceof|record|protected|var)\\b|->|::");
    private static final Pattern IMPORT = Pattern.compile("(?m)^import (.*);$");
    private static final Pattern ARRAYS_CALL = Pattern.compile("\\bArrays\\.(\\w+)");
    private static final Check check = new Check();

    public static void main(String[] args) throws IOException {
        String code = Files.readString(SOURCE).replaceAll("(?s)/\\*.*?\\*/", "").replaceAll("//.*", "");
        none("barred", BARRED.matcher(code), "");
        none("import", IMPORT.matcher(code), "java.util.Arrays");
        none("call of Arrays", ARRAYS_CALL.matcher(code), "fill");
        members();
        names();
        check.end();
    }

    private static void none(String what, Matcher found, String butFor) {
        while (found.find()) {
            String text = found.groupCount() > 0 && found.group(1) != null ? found.group(1) : found.group();
            check.due(what + " " + text, text.equals(butFor), true);
        }
    }

    /** Rules 5 and 11. */
    private static void members() {
        int fields = 0;
        for (Field field : PointColours.class.getDeclaredFields()) {
            if (Modifier.isStatic(field.getModifiers())) {
                check.due("final is the static " + field.getName(), Modifier.isFinal(field.getModifiers()), true);
            } else {
                fields++;
            }
        }
        check.due("at most twenty fields", fields <= 20, true);
        for (Method method : PointColours.class.getDeclaredMethods()) {
            check.due("at most seven parameters of " + method.getName(), method.getParameterCount() <= 7, true);
        }
    }

    /** Rule 1: no private method bears the name of a public one, and no class stands inside that is seen outside. */
    private static void names() {
        for (Method hidden : PointColours.class.getDeclaredMethods()) {
            for (Method shown : PointColours.class.getMethods()) {
                boolean alike = Modifier.isPrivate(hidden.getModifiers()) && hidden.getName().equals(shown.getName());
                check.due("a private method is called " + hidden.getName() + " too", alike, false);
            }
        }
        for (Class<?> inside : PointColours.class.getDeclaredClasses()) {
            check.due("public is " + inside.getName(), Modifier.isPublic(inside.getModifiers()), false);
            check.due("static is " + inside.getName(), Modifier.isStatic(inside.getModifiers()), true);
        }
    }
}
