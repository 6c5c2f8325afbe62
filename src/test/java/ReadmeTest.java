import java.io.IOException;
import java.lang.reflect.Method;
import java.lang.reflect.Modifier;
import java.net.URL;
import java.net.URLClassLoader;
import java.nio.file.Files;
import java.nio.file.Path;
import java.util.ArrayList;
import java.util.List;
import java.util.Set;
import java.util.TreeSet;
import java.util.regex.Matcher;
import java.util.regex.Pattern;
import javax.tools.JavaCompiler;
import javax.tools.ToolProvider;

/** Runs the Java rows of README.md as one program: each call answers what stands behind it. */
public final class ReadmeTest {
    private static final Pattern ROW = Pattern.compile("(?:int (\\w+) = )?(s\\.(\\w+)\\(.*\\));\\s*//\\s*(-?\\d+)\\b.*");
    private static final String FIRST = "SmallWorlds s = new SmallWorlds();";
    private static int wrong = 0;
    private static int rows = 0;

    public static void main(String[] args) throws Exception {
        List<String> lines = javaRows(Files.readAllLines(Path.of("README.md")));
        Set<String> missing = publicCalls();
        String program = programOf(lines, missing);
        if (!missing.isEmpty()) {
            fault("calls that the page does not show: " + missing);
        }
        if (wrong == 0) {
            run(program);
        }
        System.out.println(wrong == 0 ? rows + " rows of the page are so" : wrong + " faults of the page");
        if (wrong != 0) {
            System.exit(1);
        }
    }

    /** Called by the program that is made of the page. */
    public static void is(String row, int got, int want) {
        rows++;
        if (got != want) {
            fault(row + " answered " + got + ", the page says " + want);
        }
    }

    private static void fault(String what) {
        wrong++;
        System.out.println(what);
    }

    private static Set<String> publicCalls() {
        Set<String> names = new TreeSet<>();
        for (Method m : SmallWorlds.class.getDeclaredMethods()) {
            if (Modifier.isPublic(m.getModifiers())) {
                names.add(m.getName());
            }
        }
        return names;
    }

    private static List<String> javaRows(List<String> page) {
        List<String> found = new ArrayList<>();
        boolean inside = false;
        for (String line : page) {
            if (line.startsWith("```")) {
                inside = line.equals("```java");
            } else if (inside) {
                found.add(line.strip());
            }
        }
        return found;
    }

    private static String programOf(List<String> lines, Set<String> missing) {
        StringBuilder text = new StringBuilder("public final class Page { public static void main(String[] a) {\n");
        for (String line : lines) {
            Matcher row = ROW.matcher(line);
            if (row.matches()) {
                String call = row.group(2);
                String got = row.group(1) == null ? call : row.group(1);
                if (row.group(1) != null) {
                    text.append("int ").append(got).append(" = ").append(call).append(";\n");
                }
                text.append("ReadmeTest.is(\"").append(call).append("\", ").append(got).append(", ")
                    .append(row.group(4)).append(");\n");
                missing.remove(row.group(3));
            } else if (line.equals(FIRST)) {
                text.append(line).append('\n');
            } else {
                fault("a row without its answer: " + line);
            }
        }
        return text.append("} }\n").toString();
    }

    private static void run(String program) throws Exception {
        Path folder = Files.createTempDirectory("readme");
        try {
            Path source = Files.writeString(folder.resolve("Page.java"), program);
            JavaCompiler compiler = ToolProvider.getSystemJavaCompiler();
            if (compiler == null || compiler.run(null, null, null, "-cp", System.getProperty("java.class.path"),
                    "-d", folder.toString(), source.toString()) != 0) {
                fault("the rows of the page do not compile");
                return;
            }
            try (URLClassLoader loader = new URLClassLoader(new URL[] {folder.toUri().toURL()})) {
                loader.loadClass("Page").getMethod("main", String[].class).invoke(null, (Object) new String[0]);
            }
        } finally {
            deleteAll(folder);
        }
    }

    private static void deleteAll(Path folder) throws IOException {
        Files.deleteIfExists(folder.resolve("Page.java"));
        Files.deleteIfExists(folder.resolve("Page.class"));
        Files.deleteIfExists(folder);
    }
}
