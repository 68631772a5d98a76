import java.io.IOException;
import java.lang.reflect.Method;
import java.lang.reflect.Modifier;
import java.nio.file.Files;
import java.nio.file.Path;
import java.util.List;
import java.util.Set;
import java.util.TreeSet;
import java.util.regex.Matcher;
import java.util.regex.Pattern;
import java.util.stream.Stream;
import javax.tools.JavaCompiler;
import javax.tools.ToolProvider;

/** README.md: the calls that it shows answer as it says, and it names every call and every test. */
public final class ReadmeTest {
    private static final Pattern MADE = Pattern.compile("BoiledEggs eggs = new BoiledEggs\\(\\);");
    private static final Pattern WRITTEN =
        Pattern.compile("for \\(char c : \"([^\"]*)\"\\.toCharArray\\(\\)\\) eggs\\.letter\\(c\\);");
    private static final Pattern SHOWN =
        Pattern.compile("eggs\\.(\\w+\\([^)]*\\));\\s+// (-?\\d+|NONE|UNKNOWN|OUTSIDE|STATE|FULL)(, and$|: .+$)");
    private static final Pattern SIGN = Pattern.compile("'(.)'");
    private static final Pattern TEST_NAME = Pattern.compile("`(\\w+Test)`");

    private static int wrong = 0;

    private static void check(boolean holds, String what) {
        if (!holds) {
            wrong++;
            System.out.println("not so: " + what);
        }
    }

    private static long numberOf(String answer) {
        switch (answer) {
            case "NONE": return BoiledEggs.NONE;
            case "UNKNOWN": return BoiledEggs.UNKNOWN;
            case "OUTSIDE": return BoiledEggs.OUTSIDE;
            case "STATE": return BoiledEggs.STATE;
            case "FULL": return BoiledEggs.FULL;
            default: return Long.parseLong(answer);
        }
    }

    /** A letter between ' and ' is passed by its code. */
    private static String withCodes(String call) {
        Matcher sign = SIGN.matcher(call);
        return sign.find() ? sign.replaceFirst(String.valueOf((int) sign.group(1).charAt(0))) : call;
    }

    private static void checkShownCalls(List<String> readme) {
        Set<String> shown = new TreeSet<>();
        boolean isJava = false;
        Run run = null;
        for (String line : readme) {
            if (line.startsWith("```")) {
                isJava = line.equals("```java");
                run = null;
            } else if (isJava && !line.isEmpty()) {
                Matcher written = WRITTEN.matcher(line);
                Matcher call = SHOWN.matcher(line);
                if (run == null) {
                    check(MADE.matcher(line).matches(), "the calls shown begin with a new object: " + line);
                    run = Run.fresh();
                } else if (written.matches()) {
                    run.write(written.group(1));
                } else if (call.matches()) {
                    long got = run.call(withCodes(call.group(1)));
                    check(got == numberOf(call.group(2)), line + " (it answered " + got + ")");
                    shown.add(call.group(1).substring(0, call.group(1).indexOf('(')));
                } else {
                    check(false, "this line can be read: " + line);
                }
            }
        }
        check(shown.size() >= 15, "calls are shown: " + shown);
    }

    /** Read as a text, a call may pass what Java would refuse (1 for true). */
    private static void checkShownCallsCompile(String text) throws IOException {
        JavaCompiler compiler = ToolProvider.getSystemJavaCompiler();
        String classes = System.getProperty("java.class.path");
        // Beside the classes: what is written there goes when they go.
        Path folder = Files.createTempDirectory(Path.of(classes), "readme");
        Matcher block = Pattern.compile("(?s)```java\\n(.*?)```").matcher(text);
        for (int number = 0; compiler != null && block.find(); number++) {
            Path source = folder.resolve("Shown" + number + ".java");
            Files.writeString(source, "class Shown" + number + " { void shown() {\n" + block.group(1) + "} }\n");
            int exit = compiler.run(null, null, null, "-proc:none", "-cp", classes,
                "-d", folder.toString(), source.toString());
            check(exit == 0, "the calls shown are Java");
        }
        check(compiler != null, "there is a compiler for the calls shown");
    }

    private static void checkNamesEveryCall(String text) {
        for (Method method : BoiledEggs.class.getDeclaredMethods()) {
            if (Modifier.isPublic(method.getModifiers())) {
                // Those with parameters are named with as many.
                String parameters = "\\w+" + ", \\w+".repeat(Math.max(0, method.getParameterCount() - 1));
                String inside = method.getParameterCount() == 0 ? "" : parameters;
                String row = "(?s).*\\n\\| [^|]*`" + method.getName() + "\\(" + inside + "\\)`[^|]*\\|.*";
                check(text.matches(row), "the table has a row for " + method.getName());
            }
        }
    }

    private static void checkNamesEveryTest(String text) throws IOException {
        Set<String> named = new TreeSet<>();
        Matcher name = TEST_NAME.matcher(text);
        while (name.find()) named.add(name.group(1));
        Set<String> there = new TreeSet<>();
        try (Stream<Path> files = Files.walk(Path.of("src/test/java"))) {
            files.map(file -> file.getFileName().toString()).filter(file -> file.endsWith(".java"))
                .forEach(file -> there.add(file.substring(0, file.length() - 5)));
        }
        check(named.equals(there), "the tests named are those that are there: " + named + ", " + there);
    }

    private static void checkEveryTestIsWatched() throws IOException {
        try (Stream<Path> files = Files.walk(Path.of("src/test/java"))) {
            for (Path file : files.filter(Files::isRegularFile).toList()) {
                check(Files.readString(file).contains("        Watch.begin();\n"), file + " ends within two minutes");
            }
        }
    }

    private static void checkWayToRunTests(String text) {
        check(text.contains("\n    .ci/run\n"), "the way to run the tests is told");
        check(Files.isExecutable(Path.of(".ci/run")), ".ci/run can be run");
    }

    public static void main(String[] args) throws IOException {
        Watch.begin();
        Path readme = Path.of("README.md");
        checkShownCalls(Files.readAllLines(readme));
        String text = Files.readString(readme);
        checkShownCallsCompile(text);
        checkNamesEveryCall(text);
        checkNamesEveryTest(text);
        checkEveryTestIsWatched();
        checkWayToRunTests(text);
        System.out.println(wrong == 0 ? "README.md holds" : wrong + " things in README.md do not hold");
        if (wrong != 0) System.exit(1);
    }
}
