import java.io.IOException;
import java.lang.reflect.InvocationTargetException;
import java.lang.reflect.Method;
import java.nio.file.Files;
import java.nio.file.Path;
import java.util.regex.Matcher;
import java.util.regex.Pattern;

/** The calls that README.md tells answer as it says: a row is a call, and behind it the answer or what it throws. */
public final class ReadmeTest {
    private static final Check CHECK = new Check();
    private static final Pattern ROW = Pattern.compile("x\\.(\\w+)\\((.*)\\); *// (throws )?(-?\\w+).*");
    private static final Pattern TEXT = Pattern.compile("put\\(x, \"(.*)\"\\)");

    private static Method named(String name) {
        for (Method m : MarchHares.class.getMethods()) {
            if (m.getName().equals(name) && m.getDeclaringClass() == MarchHares.class) {
                return m;
            }
        }
        throw new IllegalStateException("README.md has a call of no such name: " + name);
    }

    private static Object[] numbers(MarchHares x, String written) {
        Matcher text = TEXT.matcher(written);
        if (text.matches()) {
            return new Object[] {Check.feed(x, text.group(1))};
        }
        if (written.isEmpty()) {
            return new Object[0];
        }
        String[] parts = written.split(", ");
        Object[] out = new Object[parts.length];
        for (int at = 0; at < parts.length; at++) {
            out[at] = Integer.decode(parts[at]);
        }
        return out;
    }

    private static String answer(MarchHares x, String name, String written) throws IllegalAccessException {
        try {
            return named(name).invoke(x, numbers(x, written)).toString();
        } catch (InvocationTargetException e) {
            return e.getCause().getClass().getSimpleName();
        }
    }

    public static void main(String[] args) throws IOException, IllegalAccessException {
        MarchHares x = new MarchHares();
        int rows = 0;
        for (String line : Files.readAllLines(Path.of("README.md"))) {
            Matcher row = ROW.matcher(line);
            if (row.matches()) {
                rows++;
                String got = answer(x, row.group(1), row.group(2));
                CHECK.due(line + " .. answered " + got, got.equals(row.group(4)) ? 1 : 0, 1);
            }
        }
        CHECK.due("rows there are", rows > 20 ? 1 : 0, 1);
        CHECK.end();
    }
}
