import java.io.IOException;
import java.lang.reflect.Constructor;
import java.lang.reflect.Field;
import java.lang.reflect.Method;
import java.lang.reflect.Modifier;
import java.nio.file.Files;
import java.nio.file.Path;
import java.util.ArrayList;
import java.util.List;
import java.util.TreeSet;
import java.util.regex.Matcher;
import java.util.regex.Pattern;

/** The face of the class, and the rules of LANGUAGE.md that can be seen from the source's words and the class's members. */
public final class LanguageTest {
    private static final String FACE = "sheet(int,int,int)int set(int,int,int)int copy(int,int,int,int,int)int drop(int)int "
        + "feed(long,int)int run()int fault()int way(int,int)int lay(int,int,int)int part(int,int,int)int bright(int,int)long "
        + "moved(int,int,int)int take(int,int,int,int)int lose(int,int)int grain(int,int)int read(int,int,int)int "
        + "parts(int,int,int,int)int off(int,int)int lack(int,int,int)long fits(int,int,int,int)int mark(int,int,int)int "
        + "aim(int,int,int,int,int)int kind(int)int as(int,int)int ask(int,int)int trace(int)int count(int)int status()int";
    private static final String CONSTANTS = "NONE BAD STATE FULL NOT";
    private static final String FORBIDDEN = "throw try catch finally synchronized assert package "
        + "Random Thread Object HashMap Exception Error currentTimeMillis nanoTime hashCode toString";

    public static void main(String[] args) throws IOException {
        constants();
        face();
        classes();
        words(Files.readString(Path.of("src/main/java/GrainWaves.java")));
        Check.finish();
    }

    private static void constants() {
        Check.due("NONE", GrainWaves.NONE, -1000000);
        Check.due("BAD", GrainWaves.BAD, -1000001);
        Check.due("STATE", GrainWaves.STATE, -1000002);
        Check.due("FULL", GrainWaves.FULL, -1000003);
        Check.due("NOT", GrainWaves.NOT, -9000000000000000000L);
    }

    private static void holds(String rule, boolean held) {
        Check.due(rule, held ? 1 : 0, 1);
    }

    private static void face() {
        Class<GrainWaves> c = GrainWaves.class;
        holds("public and final", Modifier.isPublic(c.getModifiers()) && Modifier.isFinal(c.getModifiers()));
        TreeSet<String> due = new TreeSet<>(List.of(FACE.split(" ")));
        TreeSet<String> names = facesNames();
        for (Method m : c.getDeclaredMethods()) {
            if (Modifier.isPrivate(m.getModifiers())) {
                holds("private " + m.getName() + " has a name of its own", !names.contains(m.getName()));
            } else {
                holds(told(m) + " is of the face", due.remove(told(m)) && Modifier.isPublic(m.getModifiers()));
            }
        }
        holds("the whole face is there, but for " + due, due.isEmpty());
        for (Field f : c.getDeclaredFields()) {
            boolean told = List.of(CONSTANTS.split(" ")).contains(f.getName());
            holds(f + " is as the face has it", told ? Modifier.isPublic(f.getModifiers()) : Modifier.isPrivate(f.getModifiers()));
        }
        Constructor<?>[] makers = c.getDeclaredConstructors();
        holds("one constructor, public, of nothing",
            makers.length == 1 && Modifier.isPublic(makers[0].getModifiers()) && makers[0].getParameterCount() == 0);
    }

    private static TreeSet<String> facesNames() {
        TreeSet<String> names = new TreeSet<>();
        for (String method : FACE.split(" ")) {
            names.add(method.substring(0, method.indexOf('(')));
        }
        return names;
    }

    private static String told(Method m) {
        List<String> types = new ArrayList<>();
        for (Class<?> type : m.getParameterTypes()) {
            types.add(type.getSimpleName());
        }
        return m.getName() + "(" + String.join(",", types) + ")" + m.getReturnType().getSimpleName();
    }

    private static void classes() {
        List<Class<?>> all = new ArrayList<>(List.of(GrainWaves.class.getDeclaredClasses()));
        for (Class<?> c : all) {
            holds(c + " is static", Modifier.isStatic(c.getModifiers()));
            holds(c + " is not public or protected", (c.getModifiers() & (Modifier.PUBLIC | Modifier.PROTECTED)) == 0);
        }
        all.add(GrainWaves.class);
        holds("at most 12 classes", all.size() <= 12);
        for (Class<?> c : all) {
            int fields = 0;
            for (Field f : c.getDeclaredFields()) {
                boolean kept = Modifier.isStatic(f.getModifiers());
                holds(f + ", static, is final", !kept || Modifier.isFinal(f.getModifiers()));
                fields += kept ? 0 : 1;
            }
            holds(c + " has at most 20 fields", fields <= 20);
            for (Method m : c.getDeclaredMethods()) {
                holds(m + " takes at most 7", m.getParameterCount() <= 7);
            }
        }
    }

    private static void words(String source) {
        String code = source.replaceAll("(?s)/\\*.*?\\*/", "").replaceAll("//[^\n]*", "");
        for (String word : FORBIDDEN.split(" ")) {
            holds("no word " + word, !Pattern.compile("\\b" + word + "\\b").matcher(code).find());
        }
        holds("no lambda and no method reference", !code.matches("(?s).*(->|::).*"));
        holds("no name that ends in Exact", !code.contains("Exact("));
        holds("no text joined by +", !code.matches("(?s).*(\"\\s*\\+|\\+\\s*\").*"));
        holds("signs 1 to 127", code.chars().allMatch(c -> c < 128));
        Matcher imports = Pattern.compile("import ([^;]*);").matcher(code);
        while (imports.find()) {
            holds("import " + imports.group(1), List.of("java.util.Arrays").contains(imports.group(1)));
        }
        Methods methods = new Methods(code);
        methods.lengths.forEach((name, lines) -> holds("a short method " + name, lines <= 60));
        holds("each method of the face is seen", methods.lengths.keySet().containsAll(facesNames()));
        holds("calls go at most 8 deep, but go " + methods.deepest(), methods.deepest() <= 8);
    }
}
