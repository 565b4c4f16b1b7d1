import java.io.IOException;
import java.io.StringWriter;
import java.lang.reflect.Method;
import java.net.URL;
import java.net.URLClassLoader;
import java.nio.file.Files;
import java.nio.file.Path;
import java.util.ArrayList;
import java.util.List;
import java.util.regex.Matcher;
import java.util.regex.Pattern;
import javax.tools.JavaCompiler;
import javax.tools.StandardJavaFileManager;
import javax.tools.ToolProvider;

/** What README.md shows compiles, answers as it tells there, and has every call in it. */
public final class ReadmeTest {
    /** A call with its answer behind it: x.day(1);  // true: why */
    private static final Pattern CALL = Pattern.compile("\\s*(x\\.(\\w+)\\(.*\\)); *// (-?\\d+|true|false)(:.*)?");

    private static final Check CHECK = new Check();

    public static void main(String[] args) throws Exception {
        String readme = Files.readString(Path.of("README.md"));
        List<String> blocks = blocks(readme);
        CHECK.due("two pieces of Java", blocks.size(), 2);
        if (blocks.size() == 2) {
            runs(program(blocks.get(0), blocks.get(1)));
        }
        names(readme);
        CHECK.close();
    }

    private static List<String> blocks(String readme) {
        List<String> blocks = new ArrayList<>();
        Matcher m = Pattern.compile("(?s)```java\n(.*?)```").matcher(readme);
        while (m.find()) {
            blocks.add(m.group(1));
        }
        return blocks;
    }

    private static String program(String help, String use) {
        StringBuilder text = new StringBuilder("public final class Shown {\n");
        text.append(help).append("public static void main(String[] args) {\n");
        int calls = 0;
        for (String line : use.split("\n")) {
            Matcher m = CALL.matcher(line);
            if (m.matches()) {
                calls++;
                text.append("ReadmeTest.answered(\"").append(m.group(1)).append("\", \"\" + ").append(m.group(1));
                text.append(", \"").append(m.group(3)).append("\");\n");
            } else {
                CHECK.due("a call without its answer: " + line, line.startsWith("x."), false);
                text.append(line).append('\n');
            }
        }
        CHECK.due("calls with their answers", calls > 30, true);
        return text.append("}\n}\n").toString();
    }

    /** Called by what README.md shows. */
    public static void answered(String call, String got, String told) {
        CHECK.due(call + " answered " + got + ", README.md tells " + told, got.equals(told), true);
    }

    private static void runs(String program) throws Exception {
        Path out = Files.createTempDirectory("readme");
        Path file = out.resolve("Shown.java");
        Files.writeString(file, program);
        JavaCompiler compiler = ToolProvider.getSystemJavaCompiler();
        StringWriter said = new StringWriter();
        try (StandardJavaFileManager files = compiler.getStandardFileManager(null, null, null)) {
            List<String> options = List.of("-cp", System.getProperty("java.class.path"), "-d", out.toString());
            boolean isDone = compiler.getTask(said, files, null, options, null, files.getJavaFileObjects(file)).call();
            CHECK.due("it compiles: " + said, isDone, true);
            if (isDone) {
                start(out);
            }
        }
        remove(out);
    }

    private static void start(Path out) throws Exception {
        URL[] places = {out.toUri().toURL()};
        try (URLClassLoader loader = new URLClassLoader(places, ReadmeTest.class.getClassLoader())) {
            Method main = loader.loadClass("Shown").getMethod("main", String[].class);
            main.invoke(null, (Object) new String[0]);
        }
    }

    private static void remove(Path out) throws IOException {
        for (String name : new String[] {"Shown.java", "Shown.class"}) {
            Files.deleteIfExists(out.resolve(name));
        }
        Files.deleteIfExists(out);
    }

    private static void names(String readme) {
        for (Method m : LawHoles.class.getMethods()) {
            if (m.getDeclaringClass() == LawHoles.class) {
                CHECK.due("README.md names " + m.getName(), readme.contains("`" + m.getName() + "`"), true);
            }
        }
    }
}
