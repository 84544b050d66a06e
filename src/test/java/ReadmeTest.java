import java.io.IOException;
import java.net.URI;
import java.net.URL;
import java.net.URLClassLoader;
import java.nio.charset.StandardCharsets;
import java.nio.file.Files;
import java.nio.file.Path;
import java.util.ArrayList;
import java.util.List;
import java.util.TreeSet;
import java.util.function.Supplier;
import java.util.regex.Matcher;
import java.util.regex.Pattern;
import javax.tools.JavaCompiler;
import javax.tools.JavaFileObject;
import javax.tools.SimpleJavaFileObject;
import javax.tools.ToolProvider;

/**
 * The example of README.md compiles and answers what its comments say, and the page names every call, every test and
 * no test that isn't there; it is run at the project's root.
 */
public final class ReadmeTest {
    /** A line of the example that keeps an answer: the answer that is due is the first word of its comment. */
    private static final Pattern ANSWERED = Pattern.compile("int (\\w+) = [^;]*;\\s*// (-?\\d+)\\b.*");

    public static void main(String[] args) throws IOException, ReflectiveOperationException {
        String page = Files.readString(Path.of("README.md"), StandardCharsets.UTF_8);
        List<String> example = example(page);
        List<String> names = new ArrayList<>();
        List<Long> due = new ArrayList<>();
        for (String line : example) {
            Matcher answered = ANSWERED.matcher(line);
            if (answered.matches()) {
                names.add(answered.group(1));
                due.add(Long.parseLong(answered.group(2)));
            }
        }
        Check.yes("the example has answers", due.size() > 5);
        List<Long> got = run(example, names);
        Check.same("answers of the example", got.size(), due.size());
        for (int i = 0; i < got.size() && i < due.size(); i++) {
            Check.same("README.md: " + names.get(i), got.get(i), due.get(i));
        }
        namesEveryCall(page);
        namesTheTests(page);
        Check.end("ReadmeTest");
    }

    private static List<String> example(String page) {
        List<String> lines = new ArrayList<>();
        int start = page.indexOf("```java\n");
        int end = page.indexOf("```", start + 8);
        Check.yes("README.md has an example", start >= 0 && end > start);
        if (start >= 0 && end > start) {
            lines.addAll(List.of(page.substring(start + 8, end).split("\n")));
        }
        return lines;
    }

    private static void namesEveryCall(String page) {
        for (String call : Calls.NAMES) {
            Check.yes("README.md tells of " + call, page.contains("`" + call + "("));
        }
    }

    private static void namesTheTests(String page) {
        TreeSet<String> there = new TreeSet<>();
        for (String file : Path.of("src/test/java").toFile().list()) {
            if (file.endsWith("Test.java")) {
                there.add(file.substring(0, file.length() - 5));
            }
        }
        TreeSet<String> told = new TreeSet<>();
        Matcher name = Pattern.compile("`(\\w+Test)`").matcher(page);
        while (name.find()) {
            told.add(name.group(1));
        }
        for (String test : there) {
            Check.yes("README.md tells of " + test, told.contains(test));
        }
        for (String test : told) {
            Check.yes(test + " of README.md is there", there.contains(test));
        }
    }

    private static List<Long> run(List<String> example, List<String> names)
            throws IOException, ReflectiveOperationException {
        StringBuilder text = new StringBuilder("import java.util.List;\n"
            + "public final class Example implements java.util.function.Supplier<List<Long>> {\n"
            + "public List<Long> get() {\n");
        for (String line : example) {
            text.append(line).append('\n');
        }
        text.append("return List.of((long) ").append(String.join(", (long) ", names)).append(");\n}\n}\n");
        Path folder = Files.createTempDirectory("readme");
        try {
            return compiled(text.toString(), folder).get();
        } finally {
            Files.deleteIfExists(folder.resolve("Example.class"));
            Files.deleteIfExists(folder);
        }
    }

    @SuppressWarnings("unchecked")
    private static Supplier<List<Long>> compiled(String text, Path folder)
            throws IOException, ReflectiveOperationException {
        JavaCompiler compiler = ToolProvider.getSystemJavaCompiler();
        List<String> options = List.of("-d", folder.toString(), "-cp", System.getProperty("java.class.path"));
        Check.yes("the example compiles",
            compiler.getTask(null, null, null, options, null, List.of(source(text))).call());
        try (URLClassLoader loader = new URLClassLoader(new URL[] {folder.toUri().toURL()})) {
            Object made = loader.loadClass("Example").getDeclaredConstructor().newInstance();
            return (Supplier<List<Long>>) made;
        }
    }

    private static JavaFileObject source(String text) {
        return new SimpleJavaFileObject(URI.create("string:///Example.java"), JavaFileObject.Kind.SOURCE) {
            @Override
            public CharSequence getCharContent(boolean lenient) {
                return text;
            }
        };
    }
}
