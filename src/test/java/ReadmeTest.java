import java.io.ByteArrayOutputStream;
import java.io.IOException;
import java.io.PrintStream;
import java.lang.reflect.Field;
import java.lang.reflect.Method;
import java.lang.reflect.Modifier;
import java.net.URL;
import java.net.URLClassLoader;
import java.nio.charset.StandardCharsets;
import java.nio.file.Files;
import java.nio.file.Path;
import java.util.List;
import java.util.TreeSet;
import java.util.regex.Matcher;
import java.util.regex.Pattern;
import java.util.stream.Collectors;
import java.util.stream.Stream;
import javax.tools.JavaCompiler;
import javax.tools.ToolProvider;

/** What README.md says is true; run it in the directory that has README.md. */
public final class ReadmeTest {
    private static final Due due = new Due();

    public static void main(String[] args) throws IOException, ReflectiveOperationException {
        String readme = Files.readString(Path.of("README.md"));
        example(readme);
        calls(readme);
        constants(readme);
        tests(readme);
        classesInside(readme);
        due.end("ReadmeTest");
    }

    private static void example(String readme) throws IOException, ReflectiveOperationException {
        Path dir = Files.createTempDirectory("example");
        Path source = dir.resolve("Example.java");
        Path compiled = dir.resolve("Example.class");
        try {
            Files.writeString(source, blockOf(readme, "java"));
            JavaCompiler javac = ToolProvider.getSystemJavaCompiler();
            int fault = javac.run(null, null, null, "--release", "17", "-cp", System.getProperty("java.class.path"),
                "-d", dir.toString(), source.toString());
            due.is("the example compiles", fault, 0);
            if (fault == 0) {
                sameLines(outputOf(dir), blockOf(readme, "text"));
            }
        } finally {
            Files.deleteIfExists(compiled);
            Files.deleteIfExists(source);
            Files.deleteIfExists(dir);
        }
    }

    private static String blockOf(String readme, String kind) {
        Matcher m = Pattern.compile("^```" + kind + "\n(.*?)^```$", Pattern.DOTALL | Pattern.MULTILINE).matcher(readme);
        boolean found = m.find();
        due.is("README.md has a block of " + kind, found ? 1 : 0, 1);
        return found ? m.group(1) : "";
    }

    private static String outputOf(Path dir) throws IOException, ReflectiveOperationException {
        ByteArrayOutputStream bytes = new ByteArrayOutputStream();
        PrintStream before = System.out;
        try (URLClassLoader loader = new URLClassLoader(new URL[] {dir.toUri().toURL()});
                PrintStream caught = new PrintStream(bytes, true, StandardCharsets.UTF_8)) {
            Method main = loader.loadClass("Example").getMethod("main", String[].class);
            System.setOut(caught);
            main.invoke(null, (Object) new String[0]);
        } finally {
            System.setOut(before);
        }
        return bytes.toString(StandardCharsets.UTF_8);
    }

    private static void sameLines(String got, String want) {
        List<String> shown = got.lines().collect(Collectors.toList());
        List<String> told = want.lines().collect(Collectors.toList());
        due.is("how many lines the example prints", shown.size(), told.size());
        for (int k = 0; k < Math.min(shown.size(), told.size()); k++) {
            boolean same = shown.get(k).equals(told.get(k));
            due.is("the example prints '" + shown.get(k) + "' for '" + told.get(k) + "'", same ? 1 : 0, 1);
        }
    }

    /** A row of a table begins with each call, and no row with another one. */
    private static void calls(String readme) {
        TreeSet<String> told = new TreeSet<>();
        Matcher m = Pattern.compile("^\\| `(\\w+)\\(([^)]*)\\)`", Pattern.MULTILINE).matcher(readme);
        while (m.find()) {
            told.add(m.group(1) + "/" + (m.group(2).isEmpty() ? 0 : m.group(2).split(", ").length));
        }
        TreeSet<String> real = new TreeSet<>();
        for (Method method : HourPromised.class.getDeclaredMethods()) {
            if (Modifier.isPublic(method.getModifiers())) {
                real.add(method.getName() + "/" + method.getParameterCount());
            }
        }
        due.is("the calls " + told + " of " + real, told.equals(real) ? 1 : 0, 1);
    }

    private static void constants(String readme) throws ReflectiveOperationException {
        for (Field field : HourPromised.class.getDeclaredFields()) {
            if (Modifier.isPublic(field.getModifiers())) {
                String told = "`" + field.getName() + "`( \\(|\\s*\\| )" + field.getInt(null) + "\\b";
                due.is(field.getName() + " with its value", Pattern.compile(told).matcher(readme).find() ? 1 : 0, 1);
            }
        }
    }

    private static void tests(String readme) throws IOException {
        TreeSet<String> real = new TreeSet<>();
        try (Stream<Path> files = Files.list(Path.of("src/test/java"))) {
            files.map(file -> file.getFileName().toString()).filter(name -> name.endsWith("Test.java"))
                .forEach(name -> real.add(name.substring(0, name.length() - ".java".length())));
        }
        TreeSet<String> told = namesInLists(readme, "^- `(\\w+Test)`:");
        due.is("the tests " + told + " of " + real, told.equals(real) ? 1 : 0, 1);
    }

    private static void classesInside(String readme) {
        TreeSet<String> real = new TreeSet<>();
        for (Class<?> inside : HourPromised.class.getDeclaredClasses()) {
            real.add(inside.getSimpleName());
        }
        String built = readme.substring(readme.indexOf("## How it is built"), readme.indexOf("## Tests"));
        TreeSet<String> told = namesInLists(built, "`([A-Z]\\w+)`");
        due.is("the classes " + told + " of " + real, told.equals(real) ? 1 : 0, 1);
    }

    private static TreeSet<String> namesInLists(String readme, String pattern) {
        TreeSet<String> names = new TreeSet<>();
        Matcher m = Pattern.compile(pattern, Pattern.MULTILINE).matcher(readme);
        while (m.find()) {
            names.add(m.group(1));
        }
        return names;
    }
}
