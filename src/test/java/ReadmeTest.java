import java.io.IOException;
import java.lang.reflect.InvocationTargetException;
import java.lang.reflect.Method;
import java.lang.reflect.Modifier;
import java.nio.file.Files;
import java.nio.file.Path;
import java.util.Arrays;
import java.util.List;
import java.util.regex.Matcher;
import java.util.regex.Pattern;

/** README.md's example answers as it says, and both it and the table name every call. */
public final class ReadmeTest {
    private static final Pattern NEW = Pattern.compile("StoneBoard board = new StoneBoard\\((\\d+)\\);");
    private static final Pattern CALL =
            Pattern.compile("board\\.(\\w+)\\(([-\\d, ]*)\\); *// (throws \\w+|-?\\w+)(:.*)?");

    public static void main(String[] args) throws IOException {
        Checks is = new Checks();
        List<String> lines = Files.readAllLines(Path.of("README.md"));
        runExample(is, lines);
        for (Method method : StoneBoard.class.getDeclaredMethods()) {
            if (Modifier.isPublic(method.getModifiers())) {
                String name = method.getName() + "(";
                is.yes(name + " in the example", anyStarts(lines, "board." + name));
                is.yes(name + " in the table", anyStarts(lines, "| `" + name));
            }
        }
        is.end("ReadmeTest");
    }

    private static void runExample(Checks is, List<String> lines) {
        int begin = lines.indexOf("```java");
        int end = begin + lines.subList(begin, lines.size()).indexOf("```");
        Matcher made = NEW.matcher(lines.get(begin + 1));
        is.yes(lines.get(begin + 1), made.matches());
        StoneBoard board = new StoneBoard(Integer.parseInt(made.group(1)));
        for (String line : lines.subList(begin + 2, end)) {
            Matcher call = CALL.matcher(line);
            boolean fits = call.matches();
            is.yes("a call with its answer: " + line, fits);
            if (fits) {
                is.same(line, answer(board, call.group(1), call.group(2)), call.group(3));
            }
        }
    }

    private static String answer(StoneBoard board, String name, String numbers) {
        Object[] given = numbers.isEmpty() ? new Object[0]
                : Pattern.compile(", ").splitAsStream(numbers).map(Integer::valueOf).toArray();
        Class<?>[] types = new Class<?>[given.length];
        Arrays.fill(types, int.class);
        try {
            Object got = StoneBoard.class.getMethod(name, types).invoke(board, given);
            return got == null ? "nothing" : got.toString();
        } catch (InvocationTargetException e) {
            return "throws " + e.getCause().getClass().getSimpleName();
        } catch (ReflectiveOperationException e) {
            return e.toString();
        }
    }

    private static boolean anyStarts(List<String> lines, String words) {
        return lines.stream().anyMatch(line -> line.startsWith(words));
    }
}
