import com.sun.management.ThreadMXBean;
import java.io.IOException;
import java.lang.management.ManagementFactory;
import java.lang.reflect.Field;
import java.lang.reflect.Method;
import java.lang.reflect.Modifier;
import java.nio.file.Files;
import java.nio.file.Path;
import java.util.ArrayList;
import java.util.List;
import java.util.Map;
import java.util.TreeMap;
import java.util.function.IntConsumer;
import java.util.regex.Matcher;
import java.util.regex.Pattern;

/** The rules of LANGUAGE.md that can be counted, each by its number. */
public final class LanguageTest {
    private static final Path SOURCE = Path.of("src/main/java/StoneBoard.java");
    private static final Pattern HEAD =
            Pattern.compile("( {4}| {8})(?=\\w)(?!return|throw)[\\w\\[\\] ]*?(\\w+)\\([^()]*\\)?[^;=]*");
    private static final Pattern CALLED = Pattern.compile("(\\w+)\\(");
    private static final Pattern THROWN = Pattern.compile("throw new (\\w+)\\(\\);");
    /** What the rules leave out and a program could slip into. */
    private static final String[] FORBIDDEN = {
        "->", "::", "synchronized", "assert ", "finally", "static {", "package ", "import static",
        "hashCode", "toString", "equals", "Exact(", "Object ", "double", "float", "HashMap",
        "this)", "this,", "while (true)", "for (;", "System.out", "nanoTime", "Random", "Thread"};
    private static final int ENDLESS = 1_000_000;
    private static final int CALLS = 512;
    /** Far under the room of 7.3 million fields and elements, though hundreds of objects share it. */
    private static final long MOST_BYTES_OF_OBJECT = 40_000;
    private static final long MOST_BYTES_OF_CALL = 200;

    private static final Checks is = new Checks();

    public static void main(String[] args) throws IOException {
        List<String> lines = withoutComments(Files.readAllLines(SOURCE));
        words(lines);
        Map<String, String> bodies = methods(lines);
        depth(bodies);
        classes();
        room();
        is.end("LanguageTest");
    }

    private static List<String> withoutComments(List<String> lines) {
        List<String> code = new ArrayList<>();
        for (String line : lines) {
            String word = line.strip();
            boolean comment = word.startsWith("/") || word.startsWith("*");
            code.add(comment ? "" : line.replaceAll("//.*", ""));
        }
        return code;
    }

    private static void words(List<String> lines) {
        is.sentence("3, 4, 6, 13: what is left out");
        for (String line : lines) {
            for (String word : FORBIDDEN) {
                is.no("'" + word + "' in: " + line, line.contains(word));
            }
            is.yes("library: " + line, !line.startsWith("import") || line.equals("import java.util.Arrays;"));
        }
        is.sentence("6: throw new E(), E one of ...");
        for (String line : lines) {
            Matcher thrown = THROWN.matcher(line);
            if (line.contains("throw ")) {
                is.yes(line, thrown.find() && List.of("IllegalStateException",
                        "IllegalArgumentException", "IndexOutOfBoundsException").contains(thrown.group(1)));
            }
        }
    }

    /** The methods and constructors by their names, those of one name together. */
    private static Map<String, String> methods(List<String> lines) {
        is.sentence("11: Methods stay short (some sixty lines)");
        Map<String, String> bodies = new TreeMap<>();
        for (int i = 0; i < lines.size(); i++) {
            Matcher head = HEAD.matcher(lines.get(i));
            if (head.matches()) {
                int end = i + 1;
                while (!lines.get(end).equals(head.group(1) + "}")) {
                    end++;
                }
                is.yes(head.group(2) + " has " + (end - i + 1) + " lines", end - i < 60);
                bodies.merge(head.group(2), String.join("\n", lines.subList(i + 1, end)), String::concat);
            }
        }
        int made = StoneBoard.class.getDeclaredMethods().length + 1;
        is.yes("all methods were found", bodies.size() > made);
        return bodies;
    }

    private static void depth(Map<String, String> bodies) {
        is.sentence("11: calls that are no recursion go at most eight deep");
        Map<String, Integer> known = new TreeMap<>();
        for (String name : bodies.keySet()) {
            int deep = depthOf(name, bodies, known);
            is.yes(name + " goes " + deep + " deep", deep <= 8);
        }
    }

    private static int depthOf(String name, Map<String, String> bodies, Map<String, Integer> known) {
        if (!known.containsKey(name)) {
            // what comes to itself again finds this number
            known.put(name, ENDLESS);
            int below = 0;
            Matcher called = CALLED.matcher(bodies.get(name));
            while (called.find()) {
                if (bodies.containsKey(called.group(1))) {
                    below = Math.max(below, depthOf(called.group(1), bodies, known));
                }
            }
            known.put(name, below + 1);
        }
        return known.get(name);
    }

    private static void classes() {
        is.sentence("2, 5, 11: classes, fields and parameters");
        List<Class<?>> all = new ArrayList<>(List.of(StoneBoard.class.getDeclaredClasses()));
        is.yes("classes: " + all.size(), all.size() < 12);
        all.add(StoneBoard.class);
        for (Class<?> one : all) {
            int fields = 0;
            for (Field field : one.getDeclaredFields()) {
                boolean constant = Modifier.isStatic(field.getModifiers());
                fields += constant ? 0 : 1;
                is.yes(field + " is final", !constant || Modifier.isFinal(field.getModifiers()));
            }
            is.yes(one + " has " + fields + " fields", fields <= 20);
            for (Method method : one.getDeclaredMethods()) {
                is.yes("parameters of " + method, method.getParameterCount() <= 7);
            }
        }
    }

    private static void room() {
        is.sentence("12: What a run makes is counted");
        StoneBoard[] kept = new StoneBoard[CALLS];
        spare("an object", MOST_BYTES_OF_OBJECT, i -> kept[i] = new StoneBoard(13));
        StoneBoard board = kept[0];
        spare("put", MOST_BYTES_OF_CALL, i -> board.put(i % 169, i % 3));
        StoneBoard underWay = kept[1];
        for (int i = 0; i < 300; i++) {
            playOrBack(underWay, i * 37 % 169);
        }
        spare("play and back", MOST_BYTES_OF_CALL, i -> playOrBack(board, i % 169));
        spare("pass and back", MOST_BYTES_OF_CALL, i -> {
            board.pass();
            board.back();
        });
        spare("asking", 0, i -> ask(underWay, i % 169));
    }

    private static void playOrBack(StoneBoard board, int point) {
        if (board.why(point) == 0) {
            board.play(point);
        } else if (board.moves() > 0) {
            board.back();
        }
    }

    private static void ask(StoneBoard board, int point) {
        board.at(point);
        board.turn();
        board.why(point);
        board.allowed();
        board.moves();
        board.move(point % board.moves());
        board.taken(1);
        board.string(point, 1);
        board.strings(2);
        board.ground(0);
        board.owner(point);
        board.alive(point);
        board.safe(1);
        board.safe(2);
        board.ago(point);
    }

    /** Measured a second time, since the first one also makes what the machine needs for itself. */
    private static void spare(String what, long mostEach, IntConsumer call) {
        ThreadMXBean thread = (ThreadMXBean) ManagementFactory.getThreadMXBean();
        long used = 0;
        for (int time = 0; time < 2; time++) {
            long before = thread.getCurrentThreadAllocatedBytes();
            for (int i = 0; i < CALLS; i++) {
                call.accept(i);
            }
            used = thread.getCurrentThreadAllocatedBytes() - before;
        }
        is.yes(what + " uses " + used + " bytes in " + CALLS + " calls", used <= CALLS * mostEach + 1000);
    }
}
