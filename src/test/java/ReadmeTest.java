import java.io.IOException;
import java.lang.reflect.Method;
import java.lang.reflect.Modifier;
import java.nio.file.Files;
import java.nio.file.Path;
import java.util.NoSuchElementException;

/** What README.md tells of the class: its example answers so, and it names each call and each test. */
public final class ReadmeTest {
    private static int wrong = 0;

    private ReadmeTest() {
    }

    public static void main(String[] args) throws IOException {
        String readme = Files.readString(Path.of("README.md"));
        example(readme);
        refusals();
        for (Method m : TillPipe.class.getDeclaredMethods()) {
            if (Modifier.isPublic(m.getModifiers())) {
                due(readme.contains("`" + m.getName() + "`") || readme.contains("`" + m.getName() + "("), "names " + m.getName());
            }
        }
        try (var tests = Files.list(Path.of("src/test/java"))) {
            for (Path one : (Iterable<Path>) tests::iterator) {
                String name = one.getFileName().toString().replace(".java", "");
                due(readme.contains("`" + name + "`"), "names " + name);
            }
        }
        System.out.println(wrong == 0 ? "README.md tells what is so" : wrong + " wrong");
        if (wrong > 0) {
            System.exit(1);
        }
    }

    private static void due(boolean so, String what) {
        if (!so) {
            wrong++;
            System.out.println("not so: " + what);
        }
    }

    private static void line(String readme, String call, long got, long want) {
        due(readme.contains("\n" + call + ";"), "has the line " + call);
        due(got == want, call + " answered " + got + ", due is " + want);
    }

    private static void example(String readme) {
        TillPipe x = new TillPipe();
        line(readme, "x.feed(0x63312c32, 0x2c350000, 0, 0, 0)", x.feed(0x63312c32, 0x2c350000, 0, 0, 0), 6);
        line(readme, "x.text(0)", x.text(0), 3);
        line(readme, "x.feed(0x333a6300, 0, 0, 0, 0)", x.feed(0x333a6300, 0, 0, 0, 0), 3);
        line(readme, "x.text(1)", x.text(1), 0);
        line(readme, "x.lay(1, 0)", x.lay(1, 0) ? 1 : 0, 1);
        line(readme, "x.result(0, TillPipe.NONE)", x.result(0, TillPipe.NONE), 1);
        line(readme, "x.serve(0, 0)", x.serve(0, 0), 1);
        String rule = "y:t=v?9;y:5-n";
        due(readme.contains("`" + rule + "`"), "has the rule");
        for (int i = 0; i < rule.length(); i++) {
            x.feed(rule.charAt(i), 0, 0, 0, 0);
        }
        due(x.text(2) == 0, "the rule is one");
    }

    private static void refusals() {
        TillPipe x = new TillPipe();
        due(x.lift(0) == TillPipe.NONE && x.change(1, 0) == TillPipe.HIDDEN, "NONE and HIDDEN");
        boolean thrown = false;
        try {
            x.value(0);
        } catch (NoSuchElementException e) {
            thrown = true;
        }
        due(thrown, "value throws");
    }
}
