import java.io.IOException;
import java.lang.reflect.Constructor;
import java.lang.reflect.Field;
import java.lang.reflect.Method;
import java.lang.reflect.Modifier;
import java.nio.file.Files;
import java.nio.file.Path;
import java.util.Arrays;
import java.util.Set;
import java.util.TreeSet;
import java.util.regex.Matcher;
import java.util.regex.Pattern;

/** The document's face and those rules of LANGUAGE.md that can be seen from outside. */
public final class RuleChecks {
    private static final String[] FACE = {
        "int write(int)", "int wipe()", "int fault()", "int machines()", "int edge(int,int,int,int)",
        "int turn(int,int,int,int)", "int end(int,int)", "int undo()", "int takes(int,int)", "int after(int,int)",
        "int many(int,int)", "int within()", "int missing(int)", "int leftOut(int,int)",
        "int follows(int,int,int,int)", "int search(int,int)", "int kept(int,int)", "int found(int,int)",
        "int mended(int,int)", "int judge(int,long)", "int see(int,int)", "int unsee()", "int which()",
        "int share(int,boolean)", "int lost(int,boolean)", "long seed(long)", "int drawn(int)", "int keep(int)",
        "int again(int)", "int count(int)"
    };
    private static final Set<String> CONSTANTS = Set.of("UNKNOWN", "OUTSIDE", "STATE", "FULL", "NONE");
    private static final int MOST_LINES = 60;

    private static int wrong = 0;

    private static void must(boolean is, String what) {
        if (!is) {
            wrong++;
            System.out.println("not so: " + what);
        }
    }

    public static void main(String[] args) throws IOException {
        face();
        for (Class<?> inner : WordsWithin.class.getDeclaredClasses()) {
            inside(inner);
        }
        must(WordsWithin.class.getDeclaredClasses().length < 12, "rule 11: twelve classes at most");
        String source = Files.readString(Path.of("src/main/java/WordsWithin.java"));
        source(source);
        methods(source);
        System.out.println(wrong == 0 ? "the rules are kept" : wrong + " rules are not kept");
        if (wrong != 0) {
            System.exit(1);
        }
    }

    private static String told(Method m) {
        StringBuilder t = new StringBuilder(m.getReturnType().getName()).append(' ').append(m.getName()).append('(');
        for (int i = 0; i < m.getParameterCount(); i++) {
            t.append(i == 0 ? "" : ",").append(m.getParameterTypes()[i].getName());
        }
        return t.append(')').toString();
    }

    private static Set<String> faceNames() {
        Set<String> names = new TreeSet<>();
        for (String f : FACE) {
            names.add(f.substring(f.indexOf(' ') + 1, f.indexOf('(')));
        }
        return names;
    }

    private static void face() {
        Class<?> c = WordsWithin.class;
        must(c.getModifiers() == (Modifier.PUBLIC | Modifier.FINAL), "rule 1: public and final");
        Set<String> open = new TreeSet<>();
        for (Method m : c.getDeclaredMethods()) {
            if (Modifier.isPublic(m.getModifiers())) {
                open.add(told(m));
                must(!Modifier.isStatic(m.getModifiers()), "not static: " + m);
            } else {
                must(Modifier.isPrivate(m.getModifiers()), "rule 1: private " + m);
                must(!faceNames().contains(m.getName()), "rule 1: another name for " + m);
            }
            must(m.getParameterCount() <= 7, "rule 11: parameters of " + m);
        }
        must(open.equals(new TreeSet<>(Arrays.asList(FACE))), "rule 1: the face, and no more: " + open);
        Constructor<?>[] made = c.getDeclaredConstructors();
        must(made.length == 1 && made[0].getParameterCount() == 0 && Modifier.isPublic(made[0].getModifiers()),
            "rule 1: one public constructor");
        int fields = 0;
        for (Field f : c.getDeclaredFields()) {
            boolean told = CONSTANTS.contains(f.getName());
            must(told == Modifier.isPublic(f.getModifiers()), "rule 1: the constants alone are public: " + f);
            must(told || Modifier.isPrivate(f.getModifiers()), "rule 1: private " + f);
            must(!Modifier.isStatic(f.getModifiers()) || Modifier.isFinal(f.getModifiers()), "rule 5: final " + f);
            fields += Modifier.isStatic(f.getModifiers()) ? 0 : 1;
        }
        must(fields <= 20, "rule 11: twenty fields at most");
    }

    /** Without parameters, and without "this" in the source, nothing can be handed to or by it. */
    private static void handsOutNothing(Class<?> c) {
        for (Constructor<?> made : c.getDeclaredConstructors()) {
            must(made.getParameterCount() == 0, "rule 12: a constructor is handed nothing: " + made);
        }
    }

    private static void inside(Class<?> inner) {
        handsOutNothing(inner);
        int open = inner.getModifiers() & (Modifier.PUBLIC | Modifier.PROTECTED);
        must(Modifier.isStatic(inner.getModifiers()) && open == 0, "rule 1: " + inner + " is static and hidden");
        int fields = 0;
        for (Field f : inner.getDeclaredFields()) {
            must(!Modifier.isStatic(f.getModifiers()) || Modifier.isFinal(f.getModifiers()), "rule 5: final " + f);
            fields += Modifier.isStatic(f.getModifiers()) ? 0 : 1;
        }
        must(fields <= 20, "rule 11: twenty fields at most of " + inner);
        for (Method m : inner.getDeclaredMethods()) {
            must(m.getParameterCount() <= 7, "rule 11: parameters of " + m);
            must(!faceNames().contains(m.getName()), "rule 1: another name for " + m);
        }
    }

    private static String bare(String source) {
        return source.replaceAll("(?s)/\\*.*?\\*/", " ").replaceAll("//[^\n]*", " ")
            .replaceAll("\"(\\\\.|[^\"\\\\])*\"", "\"\"").replaceAll("'(\\\\.|[^'\\\\])'", "0");
    }

    private static void source(String source) {
        String code = bare(source);
        String[] words = {"throw", "throws", "try", "catch", "finally", "synchronized", "assert", "native", "volatile",
            "transient", "package", "double", "float", "yield", "var", "hashCode", "toString", "getClass", "Object",
            "this", "System.currentTimeMillis", "System.nanoTime", "System.out", "Random", "Thread"};
        for (String word : words) {
            must(!Pattern.compile("\\b" + Pattern.quote(word) + "\\b").matcher(code).find(), "rules 3, 4, 6, 12: no " + word);
        }
        must(!code.contains("->") && !code.contains("::"), "rule 2: no lambda, no method reference");
        must(!code.matches("(?s).*\\w*Exact\\b.*"), "rule 4: nothing whose name ends in Exact");
        Matcher imports = Pattern.compile("import\\s+([^;]+);").matcher(code);
        while (imports.find()) {
            must(Set.of("java.util.Arrays", "java.util.ArrayList", "java.util.List").contains(imports.group(1)),
                "rule 4: no import of " + imports.group(1));
        }
        Matcher calls = Pattern.compile("\\b(Arrays|System|Integer|Long|Math)\\.(\\w+)").matcher(code);
        Set<String> fine = Set.of("Arrays.fill", "Arrays.copyOf", "Arrays.copyOfRange", "System.arraycopy",
            "Integer.bitCount");
        while (calls.find()) {
            must(fine.contains(calls.group()), "rule 4: " + calls.group() + " is not used here");
        }
        for (char c : source.toCharArray()) {
            must(c == '\n' || c >= 32 && c < 127, "plain signs only");
        }
    }

    /** The lines of each method, by the braces that begin behind a closing parenthesis. */
    private static void methods(String source) {
        String[] lines = source.split("\n");
        Pattern head = Pattern.compile("^( {4}| {8})[a-zA-Z].*\\) \\{$");
        for (int i = 0; i < lines.length; i++) {
            Matcher m = head.matcher(lines[i]);
            if (m.matches()) {
                int last = i;
                while (last < lines.length && !lines[last].equals(m.group(1) + "}")) {
                    last++;
                }
                must(last - i + 1 <= MOST_LINES, "rule 11: too long: " + lines[i]);
            }
        }
    }
}
