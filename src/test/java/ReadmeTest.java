import java.io.IOException;
import java.io.StringWriter;
import java.net.URI;
import java.net.URL;
import java.net.URLClassLoader;
import java.nio.file.Files;
import java.nio.file.Path;
import java.util.List;
import java.util.TreeSet;
import java.util.regex.Matcher;
import java.util.regex.Pattern;
import java.util.stream.Stream;
import javax.tools.JavaCompiler;
import javax.tools.JavaFileObject;
import javax.tools.SimpleJavaFileObject;
import javax.tools.ToolProvider;

/** Compiles the walk that README.md shows, goes it, and holds each answer beside the one that is written there. */
public final class ReadmeTest {
    private static final Due DUE = new Due("ReadmeTest");
    private static final Pattern ANSWERED =
            Pattern.compile("\\s*(?:(?:int|long|boolean) \\w+ = )?(x\\.\\w+\\(.*\\));\\s+// (-?\\d+|true|false)\\b.*");

    public static void main(String[] args) throws Exception {
        String readme = Files.readString(Path.of("README.md"));
        Matcher block = Pattern.compile("(?s)```java\n(.*?)```").matcher(readme);
        DUE.holds("README.md shows a walk", block.find());
        String walk = block.group(1);
        goes(walk);
        callsAll(walk);
        tellsOfEachTest(readme);
        DUE.close();
    }

    private static void goes(String walk) throws Exception {
        StringBuilder source = new StringBuilder("public final class Walk {\n");
        source.append("private static final StringBuilder WRONG = new StringBuilder();\n")
                .append("private static void due(String due, Object got, String what) {\n")
                .append("if (!due.equals(String.valueOf(got))) {\n")
                .append("WRONG.append(what + \" answered \" + got + \", due is \" + due + \"; \");\n}\n}\n")
                .append("public static String go() {\n");
        int answers = 0;
        for (String line : walk.split("\n")) {
            Matcher answered = ANSWERED.matcher(line);
            if (answered.matches()) {
                answers++;
                source.append(held(line, answered.group(1), answered.group(2)));
            } else {
                source.append(line).append('\n');
            }
        }
        source.append("return WRONG.toString();\n}\n}\n");
        DUE.holds("the walk tells its answers", answers >= 40);
        Path made = Files.createTempDirectory("walk");
        try {
            DUE.same("the walk compiles", "", compiled(source.toString(), made));
            DUE.same("the walk goes", "", gone(made));
        } finally {
            clear(made);
        }
    }

    private static String held(String line, String call, String due) {
        int at = line.indexOf(call);
        String kept = line.substring(0, at).strip();
        String got = kept.isEmpty() ? call : kept.split(" ")[1];
        return (kept.isEmpty() ? "" : kept + " " + call + ";\n")
                + "due(\"" + due + "\", " + got + ", \"" + call.replace("\"", "'") + "\");\n";
    }

    private static String compiled(String source, Path into) {
        JavaCompiler compiler = ToolProvider.getSystemJavaCompiler();
        StringWriter said = new StringWriter();
        JavaFileObject file = new SimpleJavaFileObject(URI.create("string:///Walk.java"), JavaFileObject.Kind.SOURCE) {
            @Override
            public CharSequence getCharContent(boolean ignored) {
                return source;
            }
        };
        List<String> how = List.of("-d", into.toString(), "-cp", System.getProperty("java.class.path"));
        boolean well = compiler.getTask(said, null, null, how, null, List.of(file)).call();
        return well ? "" : said + "refused";
    }

    private static String gone(Path made) throws Exception {
        try (URLClassLoader loader = new URLClassLoader(new URL[] {made.toUri().toURL()})) {
            return String.valueOf(loader.loadClass("Walk").getMethod("go").invoke(null));
        } catch (java.lang.reflect.InvocationTargetException thrown) {
            return thrown.getCause().toString();
        } catch (ClassNotFoundException none) {
            return "no walk";
        }
    }

    private static void clear(Path made) throws IOException {
        try (Stream<Path> files = Files.list(made)) {
            for (Path file : files.toList()) {
                Files.delete(file);
            }
        }
        Files.delete(made);
    }

    private static void callsAll(String walk) {
        TreeSet<String> names = new TreeSet<>();
        for (java.lang.reflect.Method method : AsteroTone.class.getDeclaredMethods()) {
            if (java.lang.reflect.Modifier.isPublic(method.getModifiers())) {
                names.add(method.getName());
            }
        }
        for (String name : names) {
            DUE.holds("the walk calls " + name, walk.contains("x." + name + "("));
        }
    }

    private static void tellsOfEachTest(String readme) throws IOException {
        try (Stream<Path> files = Files.list(Path.of("src/test/java"))) {
            for (Path file : files.toList()) {
                String name = file.getFileName().toString().replace(".java", "");
                DUE.holds("README.md tells of " + name, readme.contains("`" + name + "`"));
            }
        }
    }
}
