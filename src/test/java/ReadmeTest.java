import java.lang.reflect.Method;
import java.lang.reflect.Modifier;
import java.net.URL;
import java.net.URLClassLoader;
import java.nio.file.Files;
import java.nio.file.Path;
import java.util.regex.Matcher;
import java.util.regex.Pattern;
import javax.tools.ToolProvider;

/** README.md: each example's answer is the one behind it (all on one object), and each method is named. */
public final class ReadmeTest {
    private static final Path FOLDER = Path.of("build", "readme");
    private static final Pattern BLOCK = Pattern.compile("(?s)```java\n(.*?)```");
    private static final Pattern EXAMPLE = Pattern.compile("(.*);\\s+// (-?\\d+|true|false)\\b.*");

    private static int examples = 0;

    public static void main(String[] args) throws Exception {
        String readme = Files.readString(Path.of("README.md"));
        allNamed(readme);
        Files.createDirectories(FOLDER);
        Path source = FOLDER.resolve("Readme.java");
        Files.writeString(source, program(readme));
        Due.due("many examples", examples >= 40, true);
        int failed = ToolProvider.getSystemJavaCompiler().run(null, null, null,
            "-cp", System.getProperty("java.class.path"), "-d", FOLDER.toString(), source.toString());
        Due.due("javac of the examples", failed, 0);
        if (failed == 0) {
            run();
        }
        Due.finish();
    }

    private static void allNamed(String readme) {
        for (Method method : IronedOut.class.getDeclaredMethods()) {
            String name = method.getName();
            if (Modifier.isPublic(method.getModifiers())) {
                boolean named = readme.contains("`" + name + "`") || readme.contains("x." + name + "(");
                Due.due("README.md names " + name, named, true);
            }
        }
        Due.due("README.md says how the tests are run", readme.contains("\n    .ci/run\n"), true);
    }

    /** The examples as a class, whose "off" tells what isn't as due. */
    private static String program(String readme) {
        StringBuilder members = new StringBuilder();
        StringBuilder calls = new StringBuilder();
        for (Matcher block = BLOCK.matcher(readme); block.find();) {
            if (block.group(1).startsWith("static ")) {
                members.append(block.group(1));
            } else {
                block.group(1).lines().forEach(line -> calls.append(checked(line)).append('\n'));
            }
        }
        return "public final class Readme {\nstatic final int NONE = IronedOut.NONE;\nstatic String off = \"\";\n"
            + "static void due(String call, String got, String want) {\n"
            + "if (!got.equals(want)) { off += call + \" answered \" + got + \", due is \" + want + \"; \"; }\n}\n"
            + members + "public static String off() {\n" + calls + "return off;\n}\n}\n";
    }

    private static String checked(String line) {
        Matcher example = EXAMPLE.matcher(line);
        if (!example.matches()) {
            return line;
        }
        examples++;
        String call = example.group(1);
        return "due(\"" + call.replace("\"", "'") + "\", \"\" + " + call + ", \"" + example.group(2) + "\");";
    }

    private static void run() throws Exception {
        try (URLClassLoader loader = new URLClassLoader(new URL[] {FOLDER.toUri().toURL()})) {
            String off = (String) loader.loadClass("Readme").getMethod("off").invoke(null);
            Due.due("examples: " + off, off.isEmpty(), true);
        }
    }
}
