import java.io.IOException;
import java.lang.reflect.Method;
import java.nio.file.Files;
import java.nio.file.Path;
import java.util.HashMap;
import java.util.Map;
import java.util.regex.Matcher;
import java.util.regex.Pattern;

/** README.md's example is asked line by line: each answer that it tells is the one that comes. */
public final class ReadmeTest {
    private static final Pattern NEW = Pattern.compile("CapLeague x = new CapLeague\\(\\);");
    private static final Pattern PUT = Pattern.compile("put\\(x, \"(.*)\"\\);");
    private static final Pattern CALL =
            Pattern.compile("(?:int (\\w) = )?x\\.(\\w+)\\((.*?)\\); +// (-?\\d+)(?::.*)?");

    private final CapLeague x = new CapLeague();
    private final Map<String, Integer> players = new HashMap<>();

    public static void main(String[] args) throws IOException, ReflectiveOperationException {
        String[] parts = Files.readString(Path.of("README.md")).split("```");
        Due.is("README.md's parts around two pieces of code", parts.length, 5);
        helper(code(parts[1]));
        new ReadmeTest().example(code(parts[3]));
        Due.done();
    }

    private static String code(String part) {
        Due.holds("README.md's code is Java", part.startsWith("java\n"));
        return part.substring("java\n".length());
    }

    /** What README.md says to use is what is used here. */
    private static void helper(String told) throws IOException {
        String own = Files.readString(Path.of("src/test/java/ReadmeTest.java")).replaceAll("(?m)^ {4}", "");
        Due.holds("README.md's put() is this test's", own.contains(told));
    }

    private void example(String told) throws ReflectiveOperationException {
        for (String line : told.split("\n")) {
            Matcher put = PUT.matcher(line);
            Matcher call = CALL.matcher(line);
            if (put.matches()) {
                put(x, put.group(1));
            } else if (call.matches()) {
                ask(line, call);
            } else {
                Due.holds("'" + line + "' is known", line.isEmpty() || NEW.matcher(line).matches());
            }
        }
    }

    private void ask(String line, Matcher call) throws ReflectiveOperationException {
        String[] words = call.group(3).isEmpty() ? new String[0] : call.group(3).split(", ");
        Object[] args = new Object[words.length];
        for (int i = 0; i < words.length; i++) {
            args[i] = argument(words[i]);
        }
        int answer = ((Number) method(call.group(2)).invoke(x, args)).intValue();
        Due.is(line, answer, Integer.parseInt(call.group(4)));
        if (call.group(1) != null) {
            players.put(call.group(1), answer);
        }
    }

    private Object argument(String word) {
        if (word.equals("true") || word.equals("false")) {
            return word.equals("true");
        }
        return players.containsKey(word) ? players.get(word) : Integer.valueOf(word);
    }

    private static Method method(String name) {
        for (Method method : CapLeague.class.getMethods()) {
            if (method.getName().equals(name)) {
                return method;
            }
        }
        throw new IllegalStateException("no call " + name);
    }

    static void put(CapLeague x, String text) {
        x.end(0);
        for (int at = 0; at < text.length(); at += 20) {
            int[] four = new int[5];
            for (int i = 0; i < 20; i++) {
                int sign = at + i < text.length() ? text.charAt(at + i) : ' ';
                four[i / 4] = four[i / 4] << 8 | sign;
            }
            x.feed(four[0], four[1], four[2], four[3], four[4]);
        }
        x.end(text.length());
    }
}
