import java.nio.file.Files;
import java.nio.file.Path;
import java.util.Set;
import java.util.TreeSet;
import java.util.regex.Matcher;
import java.util.regex.Pattern;

/** The rules of LANGUAGE.md that can be seen in the words of the source; .ci/run starts it in the project's directory. */
public final class LanguageTest {
    private static final String[] WORDS = {
        "throw", "throws", "try", "catch", "finally", "synchronized", "assert", "package", "Random", "Thread", "hashCode",
        "println", "nanoTime", "currentTimeMillis", "volatile", "native"
    };

    public static void main(String[] args) throws Exception {
        Due due = new Due();
        due.part("LANGUAGE.md");
        String source = Files.readString(Path.of("src/main/java/EchoPayments.java"));
        String code = source.replaceAll("(?s)/\\*.*?\\*/", " ").replaceAll("//[^\n]*", " ");
        for (String word : WORDS) {
            due.isTrue("there is no " + word, !Pattern.compile("\\b" + word + "\\b").matcher(code).find());
        }
        due.isTrue("there is no lambda", !code.replaceAll("(case\\s[^>\n]*|default\\s*)->", "").contains("->"));
        due.isTrue("there is no method reference", !code.contains("::"));
        due.isTrue("there is no static initialiser", !Pattern.compile("static\\s*\\{").matcher(code).find());
        for (String name : found(code, "import ([\\w.*]+);")) {
            due.isTrue(name + " may be imported", name.matches("java\\.util\\.(Arrays|ArrayList|List|Iterator)"));
        }
        for (String call : found(code, "\\b((?:Arrays|List|Integer|Long|Math|System|String)\\.\\w+)\\(")) {
            due.isTrue(call + " may be called", call.matches("Arrays\\.(copyOf|copyOfRange|fill)|System\\.arraycopy"
                    + "|List\\.of|(Integer|Long|Math)\\.\\w+") && !call.endsWith("Exact"));
        }
        due.is("files of the program", 1, Files.list(Path.of("src/main/java")).count());
        shortMethods(due, code);
        due.end();
    }

    private static Set<String> found(String code, String pattern) {
        Set<String> all = new TreeSet<>();
        Matcher matcher = Pattern.compile(pattern).matcher(code);
        while (matcher.find()) {
            all.add(matcher.group(1));
        }
        return all;
    }

    /** A method begins with a line that ends in "{" after ")", indented by 4 or 8, and ends with "}" indented so too. */
    private static void shortMethods(Due due, String code) {
        String[] lines = code.split("\n");
        for (int i = 0; i < lines.length; i++) {
            Matcher head = Pattern.compile("^((?:    ){1,2})\\w.*\\((.*)\\) \\{$").matcher(lines[i]);
            if (!head.matches()) {
                continue;
            }
            int end = i;
            while (end < lines.length && !lines[end].equals(head.group(1) + "}")) {
                end++;
            }
            due.isTrue(lines[i].trim() + " has at most sixty lines", end - i < 60);
            due.isTrue(lines[i].trim() + " has at most seven parameters", head.group(2).split(",").length <= 7);
        }
    }
}
