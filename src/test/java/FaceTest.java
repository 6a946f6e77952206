import java.io.IOException;
import java.lang.reflect.Constructor;
import java.lang.reflect.Field;
import java.lang.reflect.Method;
import java.lang.reflect.Modifier;
import java.nio.file.Files;
import java.nio.file.Path;
import java.util.Arrays;
import java.util.TreeSet;
import java.util.regex.Pattern;

/** The face of the class, and those rules of LANGUAGE.md that a look at the class and its text can check. */
public final class FaceTest {
    private static final Checks CHECKS = new Checks("FaceTest");
    private static final String[] FACE = {"int alter(int,int)", "int at(int)", "int call(int,long,long,long,int)",
        "int count(int)", "int fault()", "int feed(long,int)", "int kind(int,int,int)", "int method(int,int)",
        "int read()", "int seal()", "int table(int,long)", "int told(int)", "int wipe()", "long pool(int,int)",
        "long result()"};
    private static final String[] CONSTANTS = {"FULL", "NONE", "OUTSIDE", "STATE", "UNKNOWN"};

    public static void main(String[] args) throws IOException {
        members();
        privateNames(InstrumentFiles.class);
        for (Class<?> inside : InstrumentFiles.class.getDeclaredClasses()) {
            CHECKS.holds(inside + " is static", Modifier.isStatic(inside.getModifiers()));
            CHECKS.holds(inside + " is not public", !Modifier.isPublic(inside.getModifiers()));
            privateNames(inside);
        }
        text();
        CHECKS.end();
    }

    private static void members() {
        CHECKS.holds("public and final", InstrumentFiles.class.getModifiers() == (Modifier.PUBLIC | Modifier.FINAL));
        TreeSet<String> methods = new TreeSet<>();
        for (Method method : InstrumentFiles.class.getDeclaredMethods()) {
            if (!Modifier.isPrivate(method.getModifiers())) {
                String taken = Arrays.stream(method.getParameterTypes()).map(Class::getName)
                    .reduce((one, other) -> one + "," + other).orElse("");
                methods.add(method.getReturnType().getName() + " " + method.getName() + "(" + taken + ")");
                CHECKS.same("modifiers of " + method, method.getModifiers(), Modifier.PUBLIC);
            }
        }
        CHECKS.holds("the methods are " + methods, methods.equals(new TreeSet<>(Arrays.asList(FACE))));
        TreeSet<String> constants = new TreeSet<>();
        for (Field field : InstrumentFiles.class.getDeclaredFields()) {
            if (!Modifier.isPrivate(field.getModifiers())) {
                constants.add(field.getName());
                CHECKS.holds(field + " is an int", field.getType() == int.class);
            }
        }
        CHECKS.holds("the constants are " + constants, constants.equals(new TreeSet<>(Arrays.asList(CONSTANTS))));
        Constructor<?>[] constructors = InstrumentFiles.class.getDeclaredConstructors();
        CHECKS.same("constructors", constructors.length, 1);
        CHECKS.holds("public", Modifier.isPublic(constructors[0].getModifiers()));
        CHECKS.holds("classes", InstrumentFiles.class.getDeclaredClasses().length <= 12);
    }

    private static void privateNames(Class<?> type) {
        TreeSet<String> names = new TreeSet<>();
        for (String method : FACE) {
            names.add(method.substring(method.indexOf(' ') + 1, method.indexOf('(')));
        }
        int fields = 0;
        for (Method method : type.getDeclaredMethods()) {
            boolean own = type == InstrumentFiles.class && Modifier.isPublic(method.getModifiers());
            CHECKS.holds(method + " bears a name of its own", own || !names.contains(method.getName()));
            CHECKS.holds(method + " takes at most seven", method.getParameterCount() <= 7);
        }
        for (Field field : type.getDeclaredFields()) {
            CHECKS.holds(field + " is final, if static",
                !Modifier.isStatic(field.getModifiers()) || Modifier.isFinal(field.getModifiers()));
            fields += Modifier.isStatic(field.getModifiers()) ? 0 : 1;
        }
        CHECKS.holds(type + " has some twenty fields at most", fields <= 20);
    }

    /** The program gets along without doubles, texts, lists and exceptions, so none is to come in unseen. */
    private static void text() throws IOException {
        String source = Files.readString(Path.of("src/main/java/InstrumentFiles.java"));
        String bare = source.replaceAll("(?s)/\\*.*?\\*/", "").replaceAll("//[^\n]*", "");
        String[] banned = {"double", "float", "throw", "catch", "finally", "import", "package", "synchronized", "assert",
            "String", "instanceof", "->", "::", "System", "protected", "static \\{", "Exact", "record"};
        for (String word : banned) {
            Pattern pattern = Pattern.compile(Character.isLetter(word.charAt(0)) ? "\\b" + word : word);
            CHECKS.holds("there is no " + word, !pattern.matcher(bare).find());
        }
        for (String line : bare.split("\n")) {
            boolean inConstructor = line.matches("        (private final .*| {0,8}\\w+(\\[m\\])?) = new .*");
            CHECKS.holds("made once, in a constructor: " + line, !line.contains("new ") || inConstructor);
        }
        CHECKS.holds("only characters below 128", source.chars().allMatch(sign -> sign < 128));
    }
}
