import java.lang.reflect.InvocationTargetException;
import java.lang.reflect.Method;
import java.lang.reflect.Modifier;
import java.nio.charset.StandardCharsets;
import java.nio.file.Files;
import java.nio.file.Path;
import java.util.ArrayList;
import java.util.List;
import java.util.Map;
import java.util.TreeMap;
import java.util.regex.Matcher;
import java.util.regex.Pattern;

/** README.md: its examples answer what stands behind them, and it names each call and each exception. */
public final class ReadmeTest {
    private static final Path PAGE = Path.of("README.md");
    private static final String MAKING = "TelegraphDesk desk = new TelegraphDesk();";
    private static final Pattern CALL = Pattern.compile("desk\\.(\\w+)\\(([-\\d, ]*)\\); +// (.*)");
    private static final Pattern ANSWER = Pattern.compile("-?\\d+(\\.\\d+)?|throws \\w+");
    // Its answer is a number without meaning to a reader: the page shows the call alone.
    private static final String WITHOUT_ANSWER = "digest";

    private static final Dues DUES = new Dues();

    private static Map<String, Method> face() {
        Map<String, Method> face = new TreeMap<>();
        for (Method method : TelegraphDesk.class.getDeclaredMethods()) {
            if (Modifier.isPublic(method.getModifiers())) {
                face.put(method.getName(), method);
            }
        }
        return face;
    }

    private static List<String> examples(List<String> page) {
        List<String> examples = new ArrayList<>();
        boolean inside = false;
        for (String line : page) {
            if (line.startsWith("```")) {
                inside = line.equals("```java");
            } else if (inside && !line.isBlank()) {
                examples.add(line);
            }
        }
        return examples;
    }

    private static Object[] numbers(String text) {
        List<Object> numbers = new ArrayList<>();
        for (String number : text.isEmpty() ? new String[0] : text.split(", ")) {
            numbers.add(Integer.valueOf(number));
        }
        return numbers.toArray();
    }

    private static String said(TelegraphDesk desk, Method method, Object[] numbers) throws IllegalAccessException {
        try {
            return String.valueOf(method.invoke(desk, numbers));
        } catch (InvocationTargetException thrown) {
            return "throws " + thrown.getCause().getClass().getSimpleName();
        }
    }

    private static void answersAreDue(List<String> examples) throws IllegalAccessException {
        Map<String, Method> face = face();
        TelegraphDesk desk = new TelegraphDesk();
        for (String line : examples) {
            Matcher call = CALL.matcher(line);
            if (line.equals(MAKING)) {
                desk = new TelegraphDesk();
            } else if (!call.matches() || !face.containsKey(call.group(1))) {
                DUES.due("the page's line", line, "a call of the face with its answer");
            } else {
                String name = call.group(1);
                String got = said(desk, face.get(name), numbers(call.group(2)));
                Matcher answer = ANSWER.matcher(call.group(3));
                DUES.due(line + ": it", got, answer.lookingAt() ? answer.group()
                        : name.equals(WITHOUT_ANSWER) ? got : "an answer that the page tells");
            }
        }
    }

    private static void eachCallIsShown(List<String> examples) {
        for (String name : face().keySet()) {
            DUES.due("an example of " + name, examples.stream().anyMatch(line -> line.contains("desk." + name + "(")),
                    true);
        }
        DUES.due("an office is made", examples.contains(MAKING), true);
    }

    private static boolean isRow(String line, String call, String exception) {
        String[] cells = line.split("\\|");
        return cells.length == 4 && cells[1].contains("`" + call + "`") && cells[2].contains("`" + exception + "`");
    }

    private static void eachExceptionIsTold(List<String> page) {
        for (Method method : face().values()) {
            for (Class<?> exception : new Class<?>[] {Dues.ARGUMENT, Dues.STATE, Dues.INDEX}) {
                boolean told = page.stream().anyMatch(line -> isRow(line, method.getName(), exception.getSimpleName()));
                DUES.due("the table of " + method.getName() + " and " + exception.getSimpleName(), told,
                        List.of(method.getExceptionTypes()).contains(exception));
            }
        }
    }

    public static void main(String[] args) throws Exception {
        List<String> page = Files.readAllLines(PAGE, StandardCharsets.UTF_8);
        List<String> examples = examples(page);
        DUES.sentence("README.md says how to use the program: the answers behind the examples");
        answersAreDue(examples);
        DUES.sentence("README.md says how to use the program: each call");
        eachCallIsShown(examples);
        DUES.sentence("README.md says what is thrown");
        eachExceptionIsTold(page);
        DUES.sentence("An object is used for at most 512 calls after it has been made");
        DUES.due("the page tells it", String.join(" ", page).contains("at most 512 calls"), true);
        DUES.sentence("README.md says how to run its tests");
        DUES.due("the page tells it", page.contains("    .ci/run"), true);
        DUES.end();
    }
}
