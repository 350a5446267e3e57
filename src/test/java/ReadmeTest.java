import java.io.IOException;
import java.lang.reflect.Method;
import java.lang.reflect.Modifier;
import java.nio.file.Files;
import java.nio.file.Path;

/** README.md: its example does what it says, and it names every call, every constant and every test. */
public final class ReadmeTest {
    private static final Check CHECK = new Check();

    public static void main(String[] args) throws IOException {
        String readme = Files.readString(Path.of("README.md"));
        example();
        exampleIsTheOneOf(readme);
        namesAllOf(readme);
        CHECK.end();
    }

    private static void example() {
        MotionLab lab = new MotionLab();
        lab.body(1, 0, Double.doubleToLongBits(3.0));
        lab.body(1, 4, Double.doubleToLongBits(2.0));
        lab.field(1, Double.doubleToLongBits(-9.81));
        int first = lab.spring(0, 1, Float.floatToIntBits(2f), Float.floatToIntBits(1f), Float.floatToIntBits(0.1f));
        lab.step(20);
        double x = Double.longBitsToDouble(lab.tell(1, 0));

        lab.keep(0, Double.doubleToLongBits(1.0));
        lab.keep(1, Double.doubleToLongBits(3.0));
        double third = Double.longBitsToDouble(lab.reckon(3, 2, 0, 1));

        Reference reference = new Reference();
        reference.body(1, 0, Check.bits(3.0));
        reference.body(1, 4, Check.bits(2.0));
        reference.field(1, Check.bits(-9.81));
        reference.spring(0, 1, Check.bits(2f), Check.bits(1f), Check.bits(0.1f));
        reference.step(20);
        CHECK.due("the first spring", first, 0);
        CHECK.due("x", reference.tell(1, 0), x);
        CHECK.due("a third", Check.bits(1.0 / 3.0), third);
    }

    private static void exampleIsTheOneOf(String readme) throws IOException {
        String here = Files.readString(Path.of("src/test/java/ReadmeTest.java"));
        String open = "```java\n";
        int start = readme.indexOf(open) + open.length();
        String[] lines = readme.substring(start, readme.indexOf("```", start)).split("\n");
        CHECK.isTrue("the README has an example", lines.length > 5);
        for (String line : lines) {
            String code = line.replaceAll("//.*", "").trim();
            CHECK.isTrue("this test has the example's line: " + code, code.isEmpty() || here.contains("        " + code + "\n"));
        }
    }

    private static void namesAllOf(String readme) throws IOException {
        for (Method method : MotionLab.class.getDeclaredMethods()) {
            if (Modifier.isPublic(method.getModifiers())) {
                CHECK.isTrue("the README names " + method.getName(), readme.contains("| `" + method.getName() + "("));
            }
        }
        for (String name : new String[] {"`REFUSED`", "`NONE`", "`FULL`", ".ci/run"}) {
            CHECK.isTrue("the README names " + name, readme.contains(name));
        }
        try (var files = Files.list(Path.of("src/test/java"))) {
            for (Path file : (Iterable<Path>) files::iterator) {
                String name = file.getFileName().toString().replace(".java", "");
                CHECK.isTrue("the README names " + name, readme.contains("`" + name + "`"));
            }
        }
    }
}
