import java.lang.reflect.InvocationTargetException;
import java.lang.reflect.Method;
import java.lang.reflect.Modifier;
import java.net.URL;
import java.net.URLClassLoader;
import java.nio.file.Files;
import java.nio.file.Path;
import java.util.List;
import java.util.TreeSet;
import java.util.regex.Matcher;
import java.util.regex.Pattern;
import java.util.stream.Stream;
import javax.tools.ToolProvider;

/** README.md says what is so: its program is compiled and run, each call is shown, each file of the tests is named. */
public final class ReadmeTest {
    private static final Path README = Path.of("README.md");
    private static final Path TESTS = Path.of("src/test/java");
    private static final Path BUILD = Path.of("build/readme");
    private static final Pattern CALL = Pattern.compile("queue\\.(\\w+)\\((.*)\\); +// (-?[0-9]+|[A-Z_]+): .+");

    private static int wrong = 0;
    private static int checked = 0;

    public static void main(String[] args) throws Exception {
        List<String> readme = Files.readAllLines(README);
        TreeSet<String> shown = new TreeSet<>();
        runProgram(program(readme, shown));
        checkAllCallsAreShown(shown);
        checkFilesAreNamed(String.join("\n", readme));
        System.out.println("ReadmeTest: " + checked + " answers checked, " + wrong + " wrong");
        if (wrong != 0) {
            System.exit(1);
        }
    }

    private static void fail(String what) {
        wrong++;
        System.out.println("ReadmeTest: " + what);
    }

    /** The program asks this for each call that README.md shows. */
    public static void due(int line, int got, int want) {
        checked++;
        if (got != want) {
            fail("README.md:" + line + ": the answer is " + got + ", not " + want);
        }
    }

    private static String program(List<String> readme, TreeSet<String> shown) {
        StringBuilder program = new StringBuilder(
                "public final class ReadmeProgram { public static void main(String[] args) {\n");
        boolean inJava = false;
        for (int i = 0; i < readme.size(); i++) {
            String line = readme.get(i);
            if (line.startsWith("```")) {
                inJava = line.equals("```java");
            } else if (inJava) {
                program.append(statement(i + 1, line, shown)).append('\n');
            }
        }
        return program.append("} }\n").toString();
    }

    private static String statement(int number, String line, TreeSet<String> shown) {
        Matcher call = CALL.matcher(line);
        if (!call.matches()) {
            if (line.contains("queue.")) {
                fail("README.md:" + number + ": no answer stands behind the call");
            }
            return line;
        }
        shown.add(call.group(1));
        String answer = call.group(3);
        String want = Character.isLetter(answer.charAt(0)) ? "SingerQueue." + answer : answer;
        return "ReadmeTest.due(" + number + ", queue." + call.group(1) + "(" + call.group(2) + "), " + want + ");";
    }

    private static void runProgram(String program) throws Exception {
        Files.createDirectories(BUILD);
        Path file = BUILD.resolve("ReadmeProgram.java");
        Files.writeString(file, program);
        int answer = ToolProvider.getSystemJavaCompiler().run(null, null, null,
                "-cp", System.getProperty("java.class.path"), "-d", BUILD.toString(), file.toString());
        if (answer != 0) {
            fail("the program in README.md does not compile");
            return;
        }
        try (URLClassLoader loader = new URLClassLoader(new URL[] {BUILD.toUri().toURL()})) {
            loader.loadClass("ReadmeProgram").getMethod("main", String[].class).invoke(null, (Object) new String[0]);
        } catch (InvocationTargetException e) {
            fail("the program in README.md throws " + e.getCause());
        }
    }

    private static void checkAllCallsAreShown(TreeSet<String> shown) {
        for (Method method : SingerQueue.class.getDeclaredMethods()) {
            if (Modifier.isPublic(method.getModifiers()) && !shown.contains(method.getName())) {
                fail("README.md shows no call of " + method.getName());
            }
        }
    }

    private static void checkFilesAreNamed(String readme) throws Exception {
        TreeSet<String> names = new TreeSet<>();
        try (Stream<Path> files = Files.list(TESTS)) {
            files.forEach(f -> names.add(f.getFileName().toString().replace(".java", "")));
        }
        for (String name : names) {
            if (!readme.contains("`" + name + "`")) {
                fail("README.md does not name " + name);
            }
        }
        Matcher named = Pattern.compile("`([A-Z]\\w*(?:Test|To[0-9]+))`").matcher(readme);
        while (named.find()) {
            if (!names.contains(named.group(1))) {
                fail("README.md names " + named.group(1) + ", and there is no such file");
            }
        }
    }
}
