import java.lang.reflect.Method;
import java.lang.reflect.Modifier;
import java.nio.file.Files;
import java.nio.file.Path;
import java.util.HashMap;
import java.util.HashSet;
import java.util.Map;
import java.util.Set;
import java.util.regex.Matcher;
import java.util.regex.Pattern;

/** The examples of README.md: each call answers what the comment behind it begins with. */
public final class ReadmeTest {
    private static final Due T = new Due("ReadmeTest");
    private static final Pattern BLOCK = Pattern.compile("(?s)```java\n(.*?)```");
    private static final Pattern CALL =
        Pattern.compile("(?:int (\\w+) = )?hall\\.(\\w+)\\(([^)]*)\\); +// (-?\\w+)(?:: .+)?");
    private static final String NEW_HALL = "PostHall hall = new PostHall();";

    private static final Set<String> USED = new HashSet<>();

    public static void main(String[] args) throws Exception {
        Matcher blocks = BLOCK.matcher(Files.readString(Path.of("README.md")));
        while (blocks.find()) {
            example(blocks.group(1).split("\n"));
        }
        everyMethodIsUsed();
        T.end();
    }

    private static void example(String[] lines) throws Exception {
        T.due("an example begins with a new hall: " + lines[0], lines[0].equals(NEW_HALL));
        PostHall hall = new PostHall();
        Map<String, Integer> named = new HashMap<>();
        for (int i = 1; i < lines.length; i++) {
            Matcher call = CALL.matcher(lines[i]);
            if (!call.matches()) {
                T.due("a call with its answer: " + lines[i], false);
                continue;
            }
            int answer = answerOf(hall, call.group(2), call.group(3), named);
            T.due(lines[i], answer, valueOf(call.group(4), named));
            if (call.group(1) != null) {
                named.put(call.group(1), answer);
            }
        }
    }

    private static int answerOf(PostHall hall, String name, String arguments, Map<String, Integer> named) throws Exception {
        USED.add(name);
        Method method = methodOf(name);
        String[] texts = arguments.split(", ");
        Object[] values = new Object[texts.length];
        for (int i = 0; i < texts.length; i++) {
            boolean yesOrNo = method.getParameterTypes()[i] == boolean.class;
            values[i] = yesOrNo ? (Object) Boolean.valueOf(texts[i]) : (Object) valueOf(texts[i], named);
        }
        return (Integer) method.invoke(hall, values);
    }

    private static Method methodOf(String name) {
        for (Method method : PostHall.class.getDeclaredMethods()) {
            if (Modifier.isPublic(method.getModifiers()) && method.getName().equals(name)) {
                return method;
            }
        }
        throw new IllegalArgumentException("README.md calls " + name + ", which is none of the methods");
    }

    /** A number, a name given before, or a constant of the class. */
    private static int valueOf(String text, Map<String, Integer> named) throws Exception {
        if (named.containsKey(text)) {
            return named.get(text);
        }
        String constant = text.replace("PostHall.", "");
        return constant.matches("[A-Z]+") ? PostHall.class.getField(constant).getInt(null) : Integer.parseInt(text);
    }

    private static void everyMethodIsUsed() {
        for (Method method : PostHall.class.getDeclaredMethods()) {
            if (Modifier.isPublic(method.getModifiers())) {
                T.due("README.md shows " + method.getName(), USED.contains(method.getName()));
            }
        }
    }
}
