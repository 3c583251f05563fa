import java.io.IOException;
import java.io.OutputStream;
import java.io.PrintStream;
import java.net.URL;
import java.net.URLClassLoader;
import java.nio.file.Files;
import java.nio.file.Path;
import java.util.ArrayList;
import java.util.Comparator;
import java.util.List;
import java.util.Set;
import java.util.regex.Matcher;
import java.util.regex.Pattern;
import java.util.stream.Stream;
import javax.tools.ToolProvider;

/**
 * What an object answers behind its 512th call is free, so no test may ask for it: each of them
 * is run once more with a class that counts the calls of each object.
 */
public final class CallCounts {
    private static final int MOST_CALLS = 512;
    private static final int CALLS_OF_THE_FACE = 30;
    private static final Pattern HEAD = Pattern.compile("\n    public (?:int|long) \\w+\\([^)]*\\) \\{");
    private static final String COUNT = " callsMade++; if (callsMade > mostCalls) { mostCalls = callsMade; }";
    private static final String FIELDS = "\n    private int callsMade; public static int mostCalls;";
    /** They make no objects of the class, or look at the class itself. */
    private static final Set<String> OTHERS = Set.of("CallCounts", "RuleChecks");

    private static int wrong = 0;

    private static void must(boolean is, String what) {
        if (!is) {
            wrong++;
            System.out.println("not so: " + what);
        }
    }

    private static String counting(String source) {
        Matcher heads = HEAD.matcher(source);
        int calls = (int) heads.reset().results().count();
        must(calls == CALLS_OF_THE_FACE, "each call of the face is counted, not " + calls);
        String counted = heads.replaceAll(m -> Matcher.quoteReplacement(m.group() + COUNT));
        return counted.replaceFirst("(public final class WordsWithin \\{)", "$1" + FIELDS);
    }

    private static List<Path> tests() throws IOException {
        List<Path> all = new ArrayList<>();
        for (String where : List.of("../shared/tests", "src/test/java")) {
            try (Stream<Path> files = Files.list(Path.of(where))) {
                files.filter(f -> f.toString().endsWith(".java") && !OTHERS.contains(name(f))).sorted().forEach(all::add);
            }
        }
        return all;
    }

    private static String name(Path test) {
        return test.getFileName().toString().replace(".java", "");
    }

    private static int callsOf(Path test, Path source, Path out) throws Exception {
        int failed = ToolProvider.getSystemJavaCompiler().run(null, null, null, "-d", out.toString(),
            "-sourcepath", "src/test/help", source.toString(), test.toString());
        must(failed == 0, test + " compiles");
        URL[] where = {out.toUri().toURL()};
        PrintStream screen = System.out;
        try (URLClassLoader loader = new URLClassLoader(where, ClassLoader.getPlatformClassLoader())) {
            System.setOut(new PrintStream(OutputStream.nullOutputStream()));
            loader.loadClass(name(test)).getMethod("main", String[].class).invoke(null, (Object) new String[0]);
            return loader.loadClass("WordsWithin").getField("mostCalls").getInt(null);
        } finally {
            System.setOut(screen);
        }
    }

    private static void remove(Path dir) throws IOException {
        try (Stream<Path> files = Files.walk(dir)) {
            for (Path file : files.sorted(Comparator.reverseOrder()).toList()) {
                Files.delete(file);
            }
        }
    }

    public static void main(String[] args) throws Exception {
        Path dir = Files.createTempDirectory("calls");
        Path source = dir.resolve("WordsWithin.java");
        Files.writeString(source, counting(Files.readString(Path.of("src/main/java/WordsWithin.java"))));
        for (Path test : tests()) {
            Path out = Files.createDirectory(dir.resolve(name(test)));
            int most = callsOf(test, source, out);
            must(most > 0 && most <= MOST_CALLS, test + " uses an object for " + most + " calls");
        }
        remove(dir);
        System.out.println(wrong == 0 ? "no test uses an object for more than 512 calls" : wrong + " are not so");
        if (wrong != 0) {
            System.exit(1);
        }
    }
}
