import java.io.IOException;
import java.lang.reflect.InvocationTargetException;
import java.lang.reflect.Method;
import java.nio.file.Files;
import java.nio.file.Path;
import java.util.regex.Matcher;
import java.util.regex.Pattern;

/** The calls that README.md shows answer what it says, one behind the other, on one object. */
public final class ReadmeTest {
    private static final Pattern CALL = Pattern.compile("town\\.(\\w+)\\((.*)\\);\\s*// (-?\\d+)(:.*)?");
    private static final Pattern TELL = Pattern.compile("tell\\(town, \"(.*)\"\\);");

    private static RaftTown town = new RaftTown();
    private static int asked = 0;
    private static int wrong = 0;

    /** As README.md has it. */
    private static void tell(RaftTown town, String text) {
        for (int i = 0; i < text.length(); i += 8) {
            int n = Math.min(8, text.length() - i);
            long bytes = 0;
            for (int k = 0; k < n; k++) {
                bytes |= (long) text.charAt(i + k) << 8 * k;
            }
            town.feed(n, bytes);
        }
    }

    private static int answer(String name, String[] words) throws IllegalAccessException, InvocationTargetException {
        for (Method m : RaftTown.class.getMethods()) {
            if (m.getName().equals(name) && m.getParameterCount() == words.length) {
                Object[] given = new Object[words.length];
                for (int i = 0; i < words.length; i++) {
                    given[i] = m.getParameterTypes()[i] == boolean.class
                        ? (Object) Boolean.valueOf(words[i]) : Integer.valueOf(words[i]);
                }
                return (Integer) m.invoke(town, given);
            }
        }
        throw new IllegalArgumentException("no such call: " + name);
    }

    private static void ask(String line) throws IllegalAccessException, InvocationTargetException {
        Matcher call = CALL.matcher(line);
        if (!call.matches()) {
            wrong++;
            System.out.println("no answer is told: " + line);
            return;
        }
        String[] words = call.group(2).isEmpty() ? new String[0] : call.group(2).split(", ");
        int answer = answer(call.group(1), words);
        asked++;
        if (answer != Integer.parseInt(call.group(3))) {
            wrong++;
            System.out.println("answered " + answer + ": " + line);
        }
    }

    public static void main(String[] args) throws IOException, ReflectiveOperationException {
        for (String line : Files.readAllLines(Path.of("README.md"))) {
            Matcher told = TELL.matcher(line);
            if (line.startsWith("RaftTown town = new RaftTown();")) {
                town = new RaftTown();
            } else if (told.matches()) {
                tell(town, told.group(1));
            } else if (line.startsWith("town.")) {
                ask(line);
            }
        }
        System.out.println(asked + " calls of README.md, " + wrong + " not as told");
        if (wrong != 0 || asked == 0) {
            System.exit(1);
        }
    }
}
