import java.io.IOException;
import java.lang.reflect.Method;
import java.nio.file.Files;
import java.nio.file.Path;
import java.util.regex.Matcher;
import java.util.regex.Pattern;

/** The calls of README.md, one after the other on one object: each answers the word that stands first behind it. */
public final class ReadmeTests extends Check {
    private static final Pattern TEXT = Pattern.compile("for \\(char c : \"([^\"]*)\"");
    private static final Pattern CALL = Pattern.compile("deeds\\.(\\w+)\\(([^)]*)\\); *// (-?\\d+|[A-Z]+)\\b");

    public static void main(String[] args) throws IOException, ReflectiveOperationException {
        about("README.md");
        GullDeeds deeds = new GullDeeds();
        int calls = 0;
        for (String line : Files.readAllLines(Path.of("README.md"))) {
            Matcher text = TEXT.matcher(line);
            if (text.find()) feedAll(deeds, text.group(1));
            Matcher call = CALL.matcher(line);
            if (call.find()) {
                calls++;
                due(call.group(), answer(deeds, call.group(1), call.group(2)), number(call.group(3)));
            }
        }
        due("calls that were found: some", calls > 20 ? 1 : 0, 1);
        end("ReadmeTests");
    }

    private static int answer(GullDeeds deeds, String name, String told) throws ReflectiveOperationException {
        String[] words = told.isEmpty() ? new String[0] : told.split(", ");
        Object[] values = new Object[words.length];
        for (int i = 0; i < words.length; i++) {
            boolean isNumber = words[i].matches("-?\\d+");
            values[i] = isNumber ? (Object) Integer.valueOf(words[i]) : Boolean.valueOf(words[i]);
        }
        for (Method m : GullDeeds.class.getMethods()) {
            if (m.getName().equals(name)) return (Integer) m.invoke(deeds, values);
        }
        throw new NoSuchMethodException(name);
    }

    private static int number(String word) throws ReflectiveOperationException {
        boolean isName = Character.isLetter(word.charAt(0));
        return isName ? GullDeeds.class.getField(word).getInt(null) : Integer.parseInt(word);
    }
}
