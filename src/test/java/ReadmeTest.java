import java.io.IOException;
import java.lang.reflect.InvocationTargetException;
import java.lang.reflect.Method;
import java.lang.reflect.Modifier;
import java.nio.file.Files;
import java.nio.file.Path;
import java.util.HashSet;
import java.util.List;
import java.util.Set;
import java.util.regex.Matcher;
import java.util.regex.Pattern;

/** Runs the example of README.md line by line: what it tells of a call is what the call does. */
public final class ReadmeTest {
    private static final Pattern CALL =
            Pattern.compile("league\\.(\\w+)\\(([^)]*)\\); +// (?:answers (-?\\w+)\\b|throws (\\w+)\\b|).*");

    private final LeagueRounds league = new LeagueRounds();
    private final Set<String> called = new HashSet<>();

    public static void main(String[] args) throws IOException {
        ReadmeTest test = new ReadmeTest();
        for (String line : example(Files.readAllLines(Path.of("README.md")))) {
            if (line.startsWith("league.")) {
                test.run(line);
            }
        }
        test.everyMethodIsShown();
        Check.end();
    }

    private static List<String> example(List<String> readme) {
        int begin = readme.indexOf("```java");
        int length = readme.subList(begin + 1, readme.size()).indexOf("```");
        return readme.subList(begin + 1, begin + 1 + length);
    }

    private void run(String line) {
        Matcher parts = CALL.matcher(line);
        Check.dueTrue("that this is a call with a comment: " + line, parts.matches());
        called.add(parts.group(1));
        Check.same(line, told(parts), answer(parts.group(1), parts.group(2)));
    }

    private static String told(Matcher parts) {
        if (parts.group(4) != null) {
            return parts.group(4);
        }
        // The methods without an answer are invoked as such that answer null.
        return String.valueOf(parts.group(3));
    }

    private String answer(String name, String written) {
        Method method = methodNamed(name);
        String[] texts = written.isEmpty() ? new String[0] : written.split(", ");
        Object[] values = new Object[texts.length];
        for (int i = 0; i < texts.length; i++) {
            values[i] = value(texts[i]);
        }
        try {
            return String.valueOf(method.invoke(league, values));
        } catch (InvocationTargetException e) {
            return e.getCause().getClass().getSimpleName();
        } catch (IllegalAccessException e) {
            return e.toString();
        }
    }

    private static Object value(String text) {
        if (text.equals("true") || text.equals("false")) {
            return Boolean.valueOf(text);
        }
        return text.equals("LeagueRounds.NONE") ? LeagueRounds.NONE : Integer.parseInt(text);
    }

    private static Method methodNamed(String name) {
        for (Method method : LeagueRounds.class.getDeclaredMethods()) {
            if (method.getName().equals(name) && Modifier.isPublic(method.getModifiers())) {
                return method;
            }
        }
        throw new IllegalArgumentException("README.md calls " + name + ", which there is not");
    }

    private void everyMethodIsShown() {
        for (Method method : LeagueRounds.class.getDeclaredMethods()) {
            if (Modifier.isPublic(method.getModifiers())) {
                Check.dueTrue("that README.md shows " + method.getName(), called.contains(method.getName()));
            }
        }
    }
}
