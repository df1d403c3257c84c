import java.io.File;
import java.io.IOException;
import java.lang.reflect.Method;
import java.lang.reflect.Modifier;
import java.net.MalformedURLException;
import java.net.URL;
import java.net.URLClassLoader;
import java.nio.file.Files;
import java.nio.file.Path;
import java.util.ArrayList;
import java.util.List;
import java.util.TreeSet;
import java.util.regex.Matcher;
import java.util.regex.Pattern;
import java.util.stream.Collectors;
import java.util.stream.Stream;
import javax.tools.JavaCompiler;
import javax.tools.ToolProvider;

/** What README.md shows is true: its Java is compiled and run, on the class and on the plain model. */
public final class ReadmeTest {
    private static final Path README = Path.of("README.md");
    private static final Pattern BLOCK = Pattern.compile("(?s)```java\n(.*?)```");
    private static final String NEW_OBJECT = "GrainWaves g = new GrainWaves();";
    /** A call, its answer, and maybe words. */
    private static final Pattern SHOWN = Pattern.compile("(\\S.*\\));\\s+// (-?\\d+)(?:: .*)?");

    private ReadmeTest() {
    }

    public static void main(String[] args) throws Exception {
        String readme = Files.readString(README);
        everyCallIsShown(readme);
        everyTestIsNamed(readme);
        Path room = Files.createTempDirectory("readme");
        try {
            play(sourceOf(readme, "ShownOnClass"), "ShownOnClass", room);
            String onModel = sourceOf(readme, "ShownOnModel").replaceAll("\\bGrainWaves\\b(?!\\.)", "PlainModel");
            play(onModel, "ShownOnModel", room);
        } finally {
            clear(room);
        }
        Check.finish();
    }

    private static void holds(String rule, boolean held) {
        Check.due(rule, held ? 1 : 0, 1);
    }

    private static void everyCallIsShown(String readme) {
        for (Method m : GrainWaves.class.getDeclaredMethods()) {
            if (Modifier.isPublic(m.getModifiers())) {
                holds("README.md shows " + m.getName() + "()", readme.contains("\ng." + m.getName() + "("));
            }
        }
    }

    private static void everyTestIsNamed(String readme) throws IOException {
        TreeSet<String> named = new TreeSet<>();
        Matcher m = Pattern.compile("\\b\\w+Test\\b").matcher(readme);
        while (m.find()) {
            named.add(m.group());
        }
        try (Stream<Path> files = Files.list(Path.of("src/test/java"))) {
            TreeSet<String> there = files.map(p -> p.getFileName().toString()).filter(n -> n.endsWith("Test.java"))
                .map(n -> n.substring(0, n.length() - 5)).collect(Collectors.toCollection(TreeSet::new));
            holds("README.md names " + named + ", there are " + there, named.equals(there));
        }
    }

    /** Each block is a method of its own, but for those that are methods already. */
    private static String sourceOf(String readme, String name) {
        StringBuilder source = new StringBuilder("public final class " + name + " {\n");
        List<String> blocks = new ArrayList<>();
        Matcher m = BLOCK.matcher(readme);
        while (m.find()) {
            if (m.group(1).startsWith("static ")) {
                source.append(m.group(1));
            } else {
                source.append("static void block").append(blocks.size()).append("() {\n");
                source.append(statementsOf(m.group(1), name)).append("}\n");
                blocks.add("block" + blocks.size() + "();\n");
            }
        }
        holds("README.md has blocks of Java", !blocks.isEmpty());
        source.append("public static int play() {\n").append(String.join("", blocks));
        return source.append("return Check.wrongOnes();\n}\n}\n").toString();
    }

    private static String statementsOf(String block, String name) {
        StringBuilder statements = new StringBuilder();
        for (String line : block.split("\n")) {
            Matcher shown = SHOWN.matcher(line);
            if (shown.matches()) {
                String call = shown.group(1);
                String quoted = call.replace("\\", "\\\\").replace("\"", "\\\"");
                statements.append("Check.due(\"" + name + ": " + quoted + "\", " + call + ", " + shown.group(2) + "L);\n");
            } else {
                holds("README.md tells the answer of each call: '" + line + "'", line.isBlank() || line.equals(NEW_OBJECT));
                statements.append(line).append('\n');
            }
        }
        return statements.toString();
    }

    private static void play(String source, String name, Path room) throws Exception {
        Path file = Files.writeString(room.resolve(name + ".java"), source);
        JavaCompiler compiler = ToolProvider.getSystemJavaCompiler();
        String path = System.getProperty("java.class.path");
        int said = compiler.run(null, null, null, "-cp", path, "-d", room.toString(), file.toString());
        holds("README.md's Java can be compiled for " + name, said == 0);
        if (said != 0) {
            return;
        }
        // The model is open to its own package only, so it is loaded by the loader that has the shown calls.
        try (URLClassLoader loader = new URLClassLoader(places(path, room), ClassLoader.getPlatformClassLoader())) {
            int wrong = (int) loader.loadClass(name).getMethod("play").invoke(null);
            Check.due("README.md's wrong answers, " + name, wrong, 0);
        }
    }

    private static URL[] places(String path, Path room) throws MalformedURLException {
        List<URL> urls = new ArrayList<>();
        urls.add(room.toUri().toURL());
        for (String one : path.split(File.pathSeparator)) {
            urls.add(Path.of(one).toUri().toURL());
        }
        return urls.toArray(new URL[0]);
    }

    private static void clear(Path room) throws IOException {
        try (Stream<Path> files = Files.list(room)) {
            for (Path file : files.collect(Collectors.toList())) {
                Files.delete(file);
            }
        }
        Files.delete(room);
    }
}
