import java.io.ByteArrayOutputStream;
import java.lang.reflect.Method;
import java.lang.reflect.Modifier;
import java.net.URL;
import java.net.URLClassLoader;
import java.nio.file.Files;
import java.nio.file.Path;
import java.util.Set;
import java.util.TreeSet;
import java.util.regex.Matcher;
import java.util.regex.Pattern;
import javax.tools.ToolProvider;

/** README.md: its example compiles and answers as it says, and each call and each constant is told of. */
public final class ReadmeTest {
    private static final Path README = Path.of("README.md");
    /** A call and, behind the two strokes, its answer. */
    private static final Pattern ANSWER = Pattern.compile("^(coast\\.(\\w+)\\(.*\\)); +// (-?[0-9]+)(:.*)?$");

    /** As the promises follow one another, from promise 2 on. */
    private static final String CALLS = "type wipe undo fault person street old umbrella back read low behind owes first ends "
        + "rings shade stroll seen forget never pass forgets season sheet lose lay get copy write count digest";

    private static final Set<String> SHOWN = new TreeSet<>();
    private static int checks, wrong;

    private static void hold(String what, boolean holds) {
        checks++;
        if (!holds) {
            wrong++;
            System.out.println("README.md: " + what);
        }
    }

    /** The example calls it: what it shows is what it gets. */
    public static void due(String call, long got, long want) {
        hold(call + " answered " + got + ", README.md says " + want, got == want);
    }

    private static String exampleOf(String readme) {
        int start = readme.indexOf("```java\n"), end = readme.indexOf("```\n", start + 8);
        return start < 0 || end < 0 ? "" : readme.substring(start + 8, end);
    }

    /** Each line with an answer becomes one that is held against it; the others stay as they are. */
    private static String programOf(String example) {
        StringBuilder program = new StringBuilder("public final class ReadmeExample {\n    public static void run() {\n");
        for (String line : example.split("\n")) {
            Matcher answer = ANSWER.matcher(line);
            if (answer.matches()) {
                SHOWN.add(answer.group(2));
                program.append("ReadmeTest.due(\"").append(answer.group(1)).append("\", ").append(answer.group(1))
                    .append(", ").append(answer.group(3)).append("L);\n");
            } else {
                hold("a call without an answer: " + line, !line.startsWith("coast."));
                program.append(line).append('\n');
            }
        }
        return program.append("    }\n}\n").toString();
    }

    private static void runExample(String program) throws Exception {
        Path dir = Files.createTempDirectory("readme");
        Path file = dir.resolve("ReadmeExample.java"), made = dir.resolve("ReadmeExample.class");
        Files.writeString(file, program);
        ByteArrayOutputStream said = new ByteArrayOutputStream();
        int code = ToolProvider.getSystemJavaCompiler().run(null, said, said,
            "-cp", System.getProperty("java.class.path"), "-d", dir.toString(), file.toString());
        hold("the example does not compile: " + said, code == 0);
        if (code == 0) {
            try (URLClassLoader loader = new URLClassLoader(new URL[] {dir.toUri().toURL()})) {
                loader.loadClass("ReadmeExample").getMethod("run").invoke(null);
            }
        }
        Files.deleteIfExists(file);
        Files.deleteIfExists(made);
        Files.deleteIfExists(dir);
    }

    private static void lookForCalls(String readme) {
        int promise = 1;
        for (String call : CALLS.split(" ")) {
            promise++;
            Pattern told = Pattern.compile("`" + call + "\\([a-z, ]*\\)` \\(" + promise + "\\)");
            hold(call + " is not told of with its promise, " + promise, told.matcher(readme).find());
            hold(call + " is not in the example", SHOWN.contains(call) || call.equals("type"));
        }
        for (Method m : LowerBows.class.getDeclaredMethods()) {
            if (Modifier.isPublic(m.getModifiers())) {
                String arguments = "[a-z]+, ".repeat(Math.max(m.getParameterCount() - 1, 0)) + (m.getParameterCount() > 0 ? "[a-z]+" : "");
                hold(m.getName() + " is told of with other arguments",
                    Pattern.compile("`" + m.getName() + "\\(" + arguments + "\\)` \\(").matcher(readme).find());
            }
        }
        for (String words : new String[] {"`BAD` | -2", "`NOT` | -3", "`FULL` | -4", "NULL | -11", "INDEX | -12", "CAST | -13",
            "STORE | -14", "SIZE | -15", "`NONE` (-1)", "new LowerBows()", ".ci/run", "512 calls"}) {
            hold("nothing of " + words, readme.contains(words));
        }
    }

    public static void main(String[] args) throws Exception {
        String readme = Files.readString(README);
        runExample(programOf(exampleOf(readme)));
        lookForCalls(readme);
        System.out.println(checks + " looks at README.md, " + wrong + " not as due");
        if (wrong != 0) {
            System.exit(1);
        }
    }
}
