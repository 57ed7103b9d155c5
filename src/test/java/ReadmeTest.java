import java.io.IOException;
import java.lang.reflect.Method;
import java.lang.reflect.Modifier;
import java.nio.file.Files;
import java.nio.file.Path;
import java.util.Arrays;
import java.util.Set;
import java.util.TreeSet;
import java.util.regex.Matcher;
import java.util.regex.Pattern;

/** README.md says how to use the class: its example is true, and its table has every call. */
public final class ReadmeTest {
    private static final Pattern TYPED = Pattern.compile("for \\(char c : \"([^\"]*)\"\\.toCharArray\\(\\)\\) \\{");
    private static final Pattern ASKED = Pattern.compile("shields\\.(\\w+)\\(([0-9, ]*)\\); +// ([^:]*?)(:.*)?");
    private static final Pattern TOLD = Pattern.compile(".*\"(.*)\" is on the page");
    private static final Pattern LISTED = Pattern.compile("\\| `(\\w+)\\(.*");

    private ReadmeTest() {
    }

    public static void main(String[] args) throws IOException {
        String readme = Files.readString(Path.of("README.md"));
        example(readme.substring(readme.indexOf("```java"), readme.indexOf("| Call |")));
        table(readme);
        Due.end();
    }

    private static void example(String example) {
        ToldShields shields = new ToldShields();
        int asked = 0;
        for (String line : example.split("\n")) {
            Matcher typed = TYPED.matcher(line);
            Matcher question = ASKED.matcher(line);
            Matcher told = TOLD.matcher(line);
            if (typed.matches()) {
                Due.type(shields, typed.group(1));
            }
            if (question.matches()) {
                asked++;
                Due.due(line, answer(shields, question.group(1), question.group(2)), question.group(3));
            }
            if (told.matches()) {
                Due.due(line, Due.page(shields), told.group(1));
            }
        }
        Due.due("questions of the example", asked, 13);
    }

    private static String answer(ToldShields shields, String call, String arguments) {
        int[] given = Arrays.stream(arguments.split(", *")).mapToInt(Integer::parseInt).toArray();
        return asWritten(Twins.answer(shields, call, given));
    }

    private static String asWritten(Object answer) {
        return answer instanceof Character ? "'" + answer + "'" : String.valueOf(answer);
    }

    private static void table(String readme) {
        Set<String> listed = new TreeSet<>();
        for (String line : readme.split("\n")) {
            Matcher matcher = LISTED.matcher(line);
            if (matcher.matches()) {
                listed.add(matcher.group(1));
            }
        }
        Set<String> face = new TreeSet<>();
        for (Method method : ToldShields.class.getDeclaredMethods()) {
            if (Modifier.isPublic(method.getModifiers())) {
                face.add(method.getName());
            }
        }
        Due.due("the calls of the table", listed, face);
    }
}
