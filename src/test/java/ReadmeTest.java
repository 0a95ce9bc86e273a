import java.io.File;
import java.io.IOException;
import java.lang.reflect.Method;
import java.lang.reflect.Modifier;
import java.nio.file.Files;
import java.nio.file.Path;
import java.util.ArrayList;
import java.util.List;
import java.util.regex.Matcher;
import java.util.regex.Pattern;

/** README.md keeps its word: its example prints what it says, and it leaves out no call and no test. */
public final class ReadmeTest {
    private static final Pattern EXAMPLE = Pattern.compile("(?s)```java\n(.*?)```");
    private static final Pattern PRINTED = Pattern.compile("System\\.out\\.println\\(.*\\);\\s*// (-?\\d+)");

    private static int wrong = 0;

    public static void main(String[] args) throws IOException, InterruptedException {
        String readme = Files.readString(Path.of("README.md"));
        example(readme);
        calls(readme);
        tests(readme);
        System.out.println(wrong == 0 ? "README.md is as due" : wrong + " faults of README.md");
        if (wrong != 0) {
            System.exit(1);
        }
    }

    private static void holds(boolean so, String what) {
        if (!so) {
            wrong++;
            System.out.println(what);
        }
    }

    private static void example(String readme) throws IOException, InterruptedException {
        Matcher found = EXAMPLE.matcher(readme);
        if (!found.find()) {
            holds(false, "README.md has no example");
            return;
        }
        List<String> want = new ArrayList<>();
        Matcher printed = PRINTED.matcher(found.group(1));
        while (printed.find()) {
            want.add(printed.group(1));
        }
        List<String> got = printedBy(found.group(1));
        holds(!want.isEmpty() && got.equals(want), "the example prints " + got + ", due is " + want);
    }

    /** Runs the example in a machine of its own, by the launcher that takes a source file. */
    private static List<String> printedBy(String example) throws IOException, InterruptedException {
        Path folder = Files.createTempDirectory("readme");
        Path source = folder.resolve("Example.java");
        Path out = folder.resolve("printed");
        try {
            String head = "public final class Example {\n    public static void main(String[] args) {\n";
            Files.writeString(source, head + example + "    }\n}\n");
            String java = Path.of(System.getProperty("java.home"), "bin", "java").toString();
            String classes = System.getProperty("java.class.path");
            ProcessBuilder launched = new ProcessBuilder(java, "-cp", classes, source.toString());
            launched.redirectErrorStream(true).redirectOutput(out.toFile()).start().waitFor();
            return Files.readAllLines(out);
        } finally {
            Files.deleteIfExists(source);
            Files.deleteIfExists(out);
            Files.deleteIfExists(folder);
        }
    }

    private static void calls(String readme) {
        for (Method m : PictureChange.class.getDeclaredMethods()) {
            if (Modifier.isPublic(m.getModifiers())) {
                holds(readme.contains("| `" + m.getName() + "("), "README.md leaves out " + m.getName());
            }
        }
    }

    private static void tests(String readme) {
        File[] files = new File("src/test/java").listFiles();
        holds(files != null && files.length > 0, "there are no tests");
        for (File file : files == null ? new File[0] : files) {
            String line = "- `src/test/java/" + file.getName() + "`:";
            holds(readme.contains(line), "README.md leaves out " + file.getName());
        }
        Matcher named = Pattern.compile("`(src/test/[^`]*)`").matcher(readme);
        while (named.find()) {
            holds(Files.exists(Path.of(named.group(1))), "there is no " + named.group(1));
        }
    }
}
