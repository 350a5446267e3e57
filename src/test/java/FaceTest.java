import java.io.IOException;
import java.lang.reflect.Constructor;
import java.lang.reflect.Field;
import java.lang.reflect.Method;
import java.lang.reflect.Modifier;
import java.nio.file.Files;
import java.nio.file.Path;
import java.util.Set;
import java.util.TreeSet;
import java.util.regex.Pattern;

/** The public face, and the rules of LANGUAGE.md that a look at the class or its text can tell. */
public final class FaceTest {
    private static final Set<String> FACE = Set.of(
        "int body(int, int, long)", "int field(int, long)", "int spring(int, int, int, int, int)", "int cut()",
        "int step(int)", "long tell(int, int)", "long about(int)", "int keep(int, long)",
        "long reckon(int, int, int, int)", "long whole(int, int, long)", "long cast(int, int)",
        "int compare(int, int)", "long energy()", "long mean(int, int)", "long horner(int)", "int single(int)",
        "long fromSingle(int, int)");
    private static final Set<String> CONSTANTS = Set.of("REFUSED", "NONE", "FULL");
    private static final String[] RULED_OUT = {"import", "package", "double", "float", "Double", "Float", "throw", "try",
        "catch", "synchronized", "assert", "native", "volatile", "System", "Object", "->", "::", "@", "Exact"};

    private static final Check CHECK = new Check();

    public static void main(String[] args) throws IOException {
        constants();
        members();
        classesInside();
        String code = code();
        ruledOutWords(code);
        rowsAreMadeOnce(code);
        methodsAreShort(code);
        CHECK.end();
    }

    private static void constants() {
        CHECK.due("REFUSED", MotionLab.REFUSED, -1);
        CHECK.due("NONE", MotionLab.NONE, -2);
        CHECK.due("FULL", MotionLab.FULL, -3);
    }

    private static void members() {
        CHECK.isTrue("the class is public and final", MotionLab.class.getModifiers() == (Modifier.PUBLIC | Modifier.FINAL));
        Set<String> open = new TreeSet<>();
        Set<String> names = new TreeSet<>();
        for (Method method : MotionLab.class.getDeclaredMethods()) {
            if (!Modifier.isPrivate(method.getModifiers())) {
                CHECK.isTrue(method + " is public", method.getModifiers() == Modifier.PUBLIC);
                open.add(told(method));
                names.add(method.getName());
            }
        }
        CHECK.isTrue("the methods are the document's: " + open, open.equals(FACE));
        for (Method method : MotionLab.class.getDeclaredMethods()) {
            boolean isHidden = Modifier.isPrivate(method.getModifiers());
            CHECK.isTrue(method + " has a name of its own", !isHidden || !names.contains(method.getName()));
        }
        Constructor<?>[] constructors = MotionLab.class.getDeclaredConstructors();
        CHECK.due("constructors", constructors.length, 1);
        CHECK.isTrue("the constructor is public", constructors[0].getModifiers() == Modifier.PUBLIC);
        for (Field field : MotionLab.class.getDeclaredFields()) {
            boolean isPrivate = Modifier.isPrivate(field.getModifiers());
            CHECK.isTrue(field + " is private or a constant of the face", isPrivate != CONSTANTS.contains(field.getName()));
            constantIfStatic(field);
        }
    }

    private static String told(Method method) {
        StringBuilder text = new StringBuilder(method.getReturnType() + " " + method.getName() + "(");
        for (int i = 0; i < method.getParameterCount(); i++) {
            text.append(i == 0 ? "" : ", ").append(method.getParameterTypes()[i]);
        }
        return text.append(")").toString();
    }

    private static void constantIfStatic(Field field) {
        boolean isStatic = Modifier.isStatic(field.getModifiers());
        CHECK.isTrue(field + " does not change", !isStatic || Modifier.isFinal(field.getModifiers()));
    }

    private static void classesInside() {
        Class<?>[] inside = MotionLab.class.getDeclaredClasses();
        CHECK.isTrue("at most eleven classes inside", inside.length <= 11);
        for (Class<?> one : inside) {
            CHECK.isTrue(one + " is static", Modifier.isStatic(one.getModifiers()));
            CHECK.isTrue(one + " is not open", !Modifier.isPublic(one.getModifiers()) && !Modifier.isProtected(one.getModifiers()));
            for (Field field : one.getDeclaredFields()) {
                constantIfStatic(field);
            }
            for (Method method : one.getDeclaredMethods()) {
                CHECK.isTrue(method + " has at most seven parameters", method.getParameterCount() <= 7);
            }
        }
    }

    private static String code() throws IOException {
        String text = Files.readString(Path.of("src/main/java/MotionLab.java"));
        return text.replaceAll("(?s)/\\*.*?\\*/", " ").replaceAll("//[^\n]*", " ");
    }

    private static void ruledOutWords(String code) {
        for (String word : RULED_OUT) {
            boolean isWord = Character.isLetter(word.charAt(0));
            Pattern pattern = Pattern.compile(isWord ? "\\b" + word + "\\b" : Pattern.quote(word));
            CHECK.isTrue("no " + word + " in the program", !pattern.matcher(code).find());
        }
    }

    // All calls of a run live in one room, so only what belongs to an object from the start is made.
    private static void rowsAreMadeOnce(String code) {
        for (String line : code.split("\n")) {
            boolean isMaking = line.matches(".*\\bnew\\b.*");
            CHECK.isTrue("made with the object: " + line, !isMaking || line.matches(" +(private )?final .* = new .*;"));
        }
    }

    private static void methodsAreShort(String code) {
        String[] lines = code.split("\n");
        for (int start = 0; start < lines.length; start++) {
            if (lines[start].matches(" +[a-zA-Z].*\\) \\{") && !lines[start].matches(" +(if|for|while|switch) .*")) {
                String close = lines[start].replaceAll("\\S.*", "}");
                int end = start;
                while (end < lines.length && !lines[end].equals(close)) {
                    end++;
                }
                CHECK.isTrue("at most sixty lines: " + lines[start], end - start < 60);
            }
        }
    }
}
