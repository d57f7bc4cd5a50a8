import java.nio.charset.StandardCharsets;
import java.nio.file.Files;
import java.nio.file.Path;
import java.util.Set;
import java.util.regex.Matcher;
import java.util.regex.Pattern;

/** The program's text keeps to those rules of LANGUAGE.md that can be read off it line by line. */
public final class RulesTest {
    private static final Path PROGRAM = Path.of("src/main/java/TelegraphDesk.java");

    private static final Set<String> LIBRARY = Set.of("Math.max", "Math.min", "System.arraycopy");
    private static final Set<String> MADE = Set.of("int", "CodeBook", "Message", "Parting", "Passage",
            "IllegalArgumentException", "IllegalStateException", "IndexOutOfBoundsException");
    private static final String NOT_IN_IT = "\\b(import|package|try|catch|finally|synchronized|assert|protected"
            + "|native|volatile|transient|var|Object|equals|hashCode|toString|getClass|this::|super)\\b"
            + "|->|::|@|\\bstatic\\s*\\{";
    private static final int MOST_LINES_OF_A_METHOD = 60;

    private static final Dues DUES = new Dues();

    private static void dueAll(String name, String text, String pattern, Set<String> due) {
        Matcher matcher = Pattern.compile(pattern).matcher(text);
        while (matcher.find()) {
            DUES.due(name + " " + matcher.group(1), due.contains(matcher.group(1)), true);
        }
    }

    private static void dueNone(String text, String pattern) {
        Matcher matcher = Pattern.compile(pattern).matcher(text);
        while (matcher.find()) {
            DUES.due("the text", matcher.group(), "nothing of that kind");
        }
    }

    private static void shortMethods(String text) {
        Pattern header = Pattern.compile("^( +)[\\w ]*\\w\\(([^)]*)\\)[^;]*?\\{\\n(.*?\\n)\\1\\}",
                Pattern.MULTILINE | Pattern.DOTALL);
        Matcher method = header.matcher(text);
        int methods = 0;
        while (method.find()) {
            methods++;
            long lines = method.group(3).lines().count();
            DUES.due("lines at" + method.group().lines().findFirst().orElse(""),
                    lines <= MOST_LINES_OF_A_METHOD, true);
            DUES.due("parameters at" + method.group().lines().findFirst().orElse(""),
                    method.group(2).split(",").length <= 7, true);
        }
        DUES.due("methods are found", methods > 31, true);
    }

    public static void main(String[] args) throws Exception {
        String whole = Files.readString(PROGRAM, StandardCharsets.ISO_8859_1);
        String text = whole.replaceAll("(?s)/\\*.*?\\*/", "").replaceAll("//[^\\n]*", "")
                .replaceAll("\"[^\"\\n]*\"", "\"\"");
        DUES.sentence("constants, whose signs are 1 to 127");
        DUES.due("signs beyond 127", whole.chars().filter(sign -> sign > 127).count(), 0L);
        DUES.sentence("The library: only what stands here.");
        dueAll("call of", text, "\\b([A-Z]\\w*[a-z]\\w*\\.\\w+)\\(", LIBRARY);
        DUES.sentence("throw new E() or throw new E(\"a written text\"); arrays and classes of your own");
        dueAll("new", text, "\\bnew\\s+(\\w+)", MADE);
        dueNone(text, "throw(?! new \\w+\\(\"\"\\);)[^s]");
        DUES.sentence("What the rules leave out");
        dueNone(text, NOT_IN_IT);
        DUES.sentence("A method takes at most seven parameters. Methods stay short (some sixty lines)");
        shortMethods(text);
        DUES.end();
    }
}
