import java.io.IOException;
import java.lang.reflect.Method;
import java.nio.file.Files;
import java.nio.file.Path;
import java.util.regex.Matcher;
import java.util.regex.Pattern;

/** The examples of README.md, done as they stand there, answer what is said behind them. */
public final class ReadmeChecks {
    private static final Pattern BLOCK = Pattern.compile("(?s)```java\n(.*?)```");
    private static final Pattern MADE = Pattern.compile("new WordsWithin\\(\\)");
    private static final Pattern TEXT = Pattern.compile("\"([^\"]*)\"\\.toCharArray");
    private static final Pattern CALL = Pattern.compile("x\\.(\\w+)\\(([^()]*)\\);\\s*// (-?\\d+):");
    private static final int FEWEST = 30;

    private static int done = 0;
    private static int wrong = 0;

    private static Object told(Class<?> type, String word) {
        if (type == boolean.class) {
            return Boolean.valueOf(word);
        }
        return type == long.class ? (Object) Long.valueOf(word.replace("L", "")) : (Object) Integer.valueOf(word);
    }

    private static Method method(String name) {
        for (Method m : WordsWithin.class.getDeclaredMethods()) {
            if (m.getName().equals(name)) {
                return m;
            }
        }
        throw new IllegalStateException("README.md names no call: " + name);
    }

    private static void call(WordsWithin x, Matcher line) throws ReflectiveOperationException {
        Method m = method(line.group(1));
        String[] words = line.group(2).isEmpty() ? new String[0] : line.group(2).split(",\\s*");
        Object[] with = new Object[words.length];
        for (int i = 0; i < words.length; i++) {
            with[i] = told(m.getParameterTypes()[i], words[i]);
        }
        long got = ((Number) m.invoke(x, with)).longValue();
        done++;
        if (got != Long.parseLong(line.group(3))) {
            wrong++;
            System.out.println("README.md: " + line.group() + " answered " + got);
        }
    }

    public static void main(String[] args) throws IOException, ReflectiveOperationException {
        Matcher block = BLOCK.matcher(Files.readString(Path.of("README.md")));
        while (block.find()) {
            WordsWithin x = null;
            for (String line : block.group(1).split("\n")) {
                Matcher text = TEXT.matcher(line);
                Matcher call = CALL.matcher(line);
                if (MADE.matcher(line).find()) {
                    x = new WordsWithin();
                } else if (x != null && text.find()) {
                    text.group(1).chars().forEach(x::write);
                } else if (x != null && call.find()) {
                    call(x, call);
                }
            }
        }
        System.out.println(done + " calls of README.md were done, " + wrong + " answered otherwise");
        if (wrong != 0 || done < FEWEST) {
            System.exit(1);
        }
    }
}
