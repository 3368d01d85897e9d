import java.lang.reflect.Constructor;
import java.lang.reflect.Field;
import java.lang.reflect.Method;
import java.lang.reflect.Modifier;
import java.nio.file.Files;
import java.nio.file.Path;
import java.util.HashSet;
import java.util.Set;
import java.util.TreeSet;
import java.util.regex.Matcher;
import java.util.regex.Pattern;

/** The document's public face and nothing beside it, and the rules of LANGUAGE.md that can be seen. */
public final class FaceTest {
    private static final Due T = new Due("FaceTest");
    private static final Path SOURCE = Path.of("src/main/java/PostHall.java");

    private static final String[] METHODS = {
        "slip(int,int)", "bundle(int,int,int)", "place(int,int,int)", "placed(int,int)", "figure(int,int,int)",
        "number(int,int)", "is(int,int,int)", "about(int,int)", "counter(int,int,int,int,int)",
        "job(int,int,int,int,int)", "shut(int,boolean)", "send(int,int)", "told(int)", "of(int,int)", "count(int)"
    };
    private static final String[] CONSTANTS = {"NONE", "BAD", "FULL", "LOST", "NO", "SIZE"};

    /** Words and signs that rules 2, 3, 4 and 6 leave out. */
    private static final String[] FORBIDDEN = {
        "\\bthrows?\\b", "\\btry\\b", "\\bcatch\\b", "\\bfinally\\b", "\\bsynchronized\\b", "\\bassert\\b",
        "\\bpackage\\b", "\\bimport\\b", "\\bvar\\b", "\\bObject\\b", "Exact\\b", "->", "::", "\\bSystem\\.(?!arraycopy)",
        "\\bstatic\\s*\\{", "\\bhashCode\\b", "\\btoString\\b"
    };

    public static void main(String[] args) throws Exception {
        constants();
        methods();
        nothingElse();
        source();
        T.end();
    }

    private static void constants() throws Exception {
        for (int i = 0; i < CONSTANTS.length; i++) {
            Field field = PostHall.class.getField(CONSTANTS[i]);
            T.due(CONSTANTS[i], field.getInt(null), -1 - i);
            int wanted = Modifier.PUBLIC | Modifier.STATIC | Modifier.FINAL;
            T.due(CONSTANTS[i] + "'s modifiers", field.getModifiers(), wanted);
            T.due(CONSTANTS[i] + " is an int", field.getType() == int.class);
        }
    }

    private static String signature(Method method) {
        StringBuilder text = new StringBuilder(method.getName()).append('(');
        for (Class<?> type : method.getParameterTypes()) {
            text.append(text.charAt(text.length() - 1) == '(' ? "" : ",").append(type.getName());
        }
        return text.append(')').toString();
    }

    private static void methods() {
        Set<String> found = new TreeSet<>();
        for (Method method : PostHall.class.getDeclaredMethods()) {
            if (Modifier.isPublic(method.getModifiers())) {
                found.add(signature(method));
                T.due(method + " answers an int", method.getReturnType() == int.class);
                T.due(method + "'s modifiers", method.getModifiers(), Modifier.PUBLIC);
            }
        }
        T.due("the public methods are " + found, found.equals(new TreeSet<>(Set.of(METHODS))));
    }

    private static void nothingElse() {
        T.due("public and final", PostHall.class.getModifiers(), Modifier.PUBLIC | Modifier.FINAL);
        Constructor<?>[] constructors = PostHall.class.getDeclaredConstructors();
        T.due("constructors", constructors.length, 1);
        T.due("its modifiers", constructors[0].getModifiers(), Modifier.PUBLIC);
        T.due("its parameters", constructors[0].getParameterCount(), 0);
        Set<String> publicNames = new HashSet<>();
        for (String method : METHODS) {
            publicNames.add(method.substring(0, method.indexOf('(')));
        }
        for (Method method : PostHall.class.getDeclaredMethods()) {
            int modifiers = method.getModifiers();
            T.due(method + " is public or private", Modifier.isPublic(modifiers) || Modifier.isPrivate(modifiers));
            T.due(method + " bears no public name", Modifier.isPublic(modifiers) || !publicNames.contains(method.getName()));
            T.due(method + " has few parameters", method.getParameterCount() <= 7);
        }
        Set<String> constants = Set.of(CONSTANTS);
        for (Field field : PostHall.class.getDeclaredFields()) {
            int modifiers = field.getModifiers();
            T.due(field + " is private", Modifier.isPrivate(modifiers) || constants.contains(field.getName()));
            T.due(field + " is no state of the class", !Modifier.isStatic(modifiers) || Modifier.isFinal(modifiers));
        }
        for (Class<?> inside : PostHall.class.getDeclaredClasses()) {
            int modifiers = inside.getModifiers();
            T.due(inside + " is static", Modifier.isStatic(modifiers));
            T.due(inside + " is not for others", !Modifier.isPublic(modifiers) && !Modifier.isProtected(modifiers));
        }
    }

    private static void source() throws Exception {
        String code = Files.readString(SOURCE)
            .replaceAll("(?s)/\\*.*?\\*/", " ")
            .replaceAll("//[^\n]*", " ")
            .replaceAll("\"[^\"\n]*\"", "\"\"");
        for (String forbidden : FORBIDDEN) {
            Matcher matcher = Pattern.compile(forbidden).matcher(code);
            T.due("the source has no " + forbidden, !matcher.find());
        }
    }
}
