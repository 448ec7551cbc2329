import java.lang.reflect.Method;
import java.nio.file.Files;
import java.nio.file.Path;
import java.util.List;
import java.util.regex.Matcher;
import java.util.regex.Pattern;

/** README.md shows calls with their answers: they are done, in order, on one house. */
public final class ReadmeTest {
    private static final Pattern CALL = Pattern.compile("house\\.(\\w+)\\(([^)]*)\\);\\s*(?://\\s*(-?\\d+):.*)?");

    public static void main(String[] args) throws Exception {
        List<String> lines = Files.readAllLines(Path.of("README.md"));
        PuzzleChests house = new PuzzleChests();
        int checked = 0;
        int wrong = 0;
        for (String line : lines) {
            if (!line.startsWith("house.")) {
                continue;
            }
            Matcher call = CALL.matcher(line);
            String told = call.matches() ? call.group(3) : null;
            String got = told == null ? "nothing that can be checked" : answer(house, call.group(1), call.group(2));
            checked++;
            if (!got.equals(told)) {
                wrong++;
                System.out.println("README.md says: " + line + " but it answered " + got);
            }
        }
        System.out.println("README.md: " + (checked - wrong) + " of " + checked + " calls answer as it says");
        System.exit(wrong == 0 && checked > 0 ? 0 : 1);
    }

    private static String answer(PuzzleChests house, String name, String given) throws Exception {
        String[] words = given.isBlank() ? new String[0] : given.split(",\\s*");
        for (Method method : PuzzleChests.class.getMethods()) {
            if (method.getName().equals(name) && method.getParameterCount() == words.length) {
                return String.valueOf(method.invoke(house, arguments(words)));
            }
        }
        return "that there is no such call";
    }

    private static Object[] arguments(String[] words) {
        Object[] arguments = new Object[words.length];
        for (int i = 0; i < words.length; i++) {
            boolean isTruth = words[i].equals("true") || words[i].equals("false");
            arguments[i] = isTruth ? (Object) Boolean.valueOf(words[i]) : (Object) Integer.valueOf(words[i]);
        }
        return arguments;
    }
}
