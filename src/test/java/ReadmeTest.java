import java.lang.reflect.Method;
import java.lang.reflect.Modifier;
import java.net.URL;
import java.net.URLClassLoader;
import java.nio.file.Files;
import java.nio.file.Path;
import java.util.ArrayList;
import java.util.List;
import java.util.regex.Matcher;
import java.util.regex.Pattern;
import javax.tools.ToolProvider;

/** The example of README.md compiles and answers what stands behind its calls; all calls are told. */
public final class ReadmeTest {
    private static final Pattern EXAMPLE = Pattern.compile("(?s)```java\\n(.*?)```");
    private static final Pattern ANSWERED = Pattern.compile("(?m)^(x\\.[^;]*); +// (-?\\d+)\\b.*$");
    private static final Pattern TOLD = Pattern.compile("`(\\w+)\\(([^)`]*)\\)`");

    public static void main(String[] args) throws Exception {
        Due due = new Due("ReadmeTest");
        String told = System.getenv("DUNCESEE_README");
        String readme = Files.readString(Path.of(told == null ? "README.md" : told));
        example(due, readme);
        calls(due, readme);
        due.end();
    }

    private static void example(Due due, String readme) throws Exception {
        Matcher block = EXAMPLE.matcher(readme);
        due.holds("there is an example", block.find());
        String example = block.group(1);
        List<String> calls = new ArrayList<>();
        Matcher call = ANSWERED.matcher(example);
        while (call.find()) {
            calls.add(call.group(1));
        }
        // A comment that is not read as an answer would be held by nothing.
        due.is("calls with an answer", calls.size(), example.split("//", -1).length - 1);
        String body = call.replaceAll("answers.add(new long[] {$1, $2});");
        List<long[]> answers = answersOf("public final class Example {\n"
            + "public static void run(java.util.List<long[]> answers) {\n" + body + "}\n}\n");
        due.is("answers", answers.size(), calls.size());
        for (int i = 0; i < answers.size(); i++) {
            due.is(calls.get(i), answers.get(i)[0], answers.get(i)[1]);
        }
    }

    private static List<long[]> answersOf(String source) throws Exception {
        Path folder = Files.createTempDirectory("readme");
        Path file = folder.resolve("Example.java");
        List<long[]> answers = new ArrayList<>();
        try {
            Files.writeString(file, source);
            int code = ToolProvider.getSystemJavaCompiler().run(null, null, null, "-cp",
                System.getProperty("java.class.path"), "-d", folder.toString(), file.toString());
            if (code != 0) {
                return answers;
            }
            try (URLClassLoader loader = new URLClassLoader(new URL[] {folder.toUri().toURL()})) {
                loader.loadClass("Example").getMethod("run", List.class).invoke(null, answers);
            }
        } finally {
            Files.deleteIfExists(folder.resolve("Example.class"));
            Files.deleteIfExists(file);
            Files.delete(folder);
        }
        return answers;
    }

    private static void calls(Due due, String readme) {
        List<String> told = new ArrayList<>();
        Matcher call = TOLD.matcher(readme);
        while (call.find()) {
            int parameters = call.group(2).isEmpty() ? 0 : call.group(2).split(",").length;
            told.add(call.group(1) + "/" + parameters);
        }
        for (Method method : DunceSee.class.getDeclaredMethods()) {
            if (Modifier.isPublic(method.getModifiers())) {
                String name = method.getName() + "/" + method.getParameterCount();
                due.holds("README.md tells " + name, told.removeIf(name::equals));
            }
        }
        due.holds("README.md tells calls that there are: " + told, told.isEmpty());
    }
}
