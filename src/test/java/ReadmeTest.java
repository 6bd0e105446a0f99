import java.nio.file.Files;
import java.nio.file.Path;
import java.util.regex.Matcher;
import java.util.regex.Pattern;

/** What README.md tells of the class is so: its examples answer what stands behind them, and no call is left out. */
public final class ReadmeTest {
    private static final Pattern MADE = Pattern.compile("EchoPayments net = new EchoPayments\\((\\d+), (\\d+)\\);.*");
    private static final Pattern CALL = Pattern.compile("net\\.(\\w+)\\(([\\d, ]*)\\); +// (-?\\w+).*");
    private static final String SETTLED = "while (net.pump(8) > 0) { }";

    public static void main(String[] args) throws Exception {
        Due due = new Due();
        due.part("README.md");
        String readme = Files.readString(Path.of("README.md"));
        Matcher examples = Pattern.compile("(?s)```java\n(.*?)```").matcher(readme);
        Payments net = null;
        while (examples.find()) {
            for (String line : examples.group(1).split("\n")) {
                net = follow(due, net, line);
            }
        }
        due.isTrue("it has examples", net != null);
        for (var method : Payments.class.getMethods()) {
            due.isTrue("it tells the answer of " + method.getName(),
                    Pattern.compile("(?m)^\\|.*`" + method.getName() + "\\(.*\\|.+\\|$").matcher(readme).find());
        }
        for (var field : EchoPayments.class.getFields()) {
            due.isTrue("it tells the meaning of " + field.getName(),
                    readme.contains("\n| `" + field.getName() + "` | " + field.getInt(null) + " | "));
        }
        due.end();
    }

    private static Payments follow(Due due, Payments net, String line) throws Exception {
        Matcher made = MADE.matcher(line);
        if (made.matches()) {
            return new Counted(Integer.parseInt(made.group(1)), Integer.parseInt(made.group(2)));
        }
        Matcher call = CALL.matcher(line);
        if (call.matches()) {
            due.is(line, number(call.group(3)), new Call(call.group(1), arguments(call.group(2))).on(net));
        } else {
            due.isTrue("this line can be followed: " + line, line.startsWith(SETTLED));
            Net.settle(net);
        }
        return net;
    }

    private static long[] arguments(String list) {
        String[] words = list.isEmpty() ? new String[0] : list.split(", ");
        long[] numbers = new long[words.length];
        for (int i = 0; i < words.length; i++) {
            numbers[i] = Long.parseLong(words[i]);
        }
        return numbers;
    }

    private static long number(String answer) throws Exception {
        if (answer.equals("true") || answer.equals("false")) {
            return answer.equals("true") ? 1 : 0;
        }
        return answer.matches("-?\\d+") ? Long.parseLong(answer) : EchoPayments.class.getField(answer).getInt(null);
    }
}
