import java.io.IOException;
import java.lang.reflect.Field;
import java.lang.reflect.Method;
import java.lang.reflect.Modifier;
import java.nio.file.Files;
import java.nio.file.Path;
import java.util.ArrayList;
import java.util.List;
import java.util.Map;
import java.util.Set;
import java.util.TreeMap;
import java.util.TreeSet;
import java.util.regex.Matcher;
import java.util.regex.Pattern;

/**
 * The rules of ../shared/LANGUAGE.md that can be seen by looking at the text of the class or at its
 * members. Runs from the project's folder.
 */
public final class LanguageTest {
    private static final Path SOURCE = Path.of("src/main/java/GroebnerFan.java");
    private static final String[] FORBIDDEN = {
        "throw", "throws", "try", "catch", "finally", "synchronized", "assert", "package", "enum",
        "native", "volatile", "transient", "var", "Object", "Random", "Thread", "currentTimeMillis",
        "nanoTime", "equals", "hashCode", "toString", "float", "double"
    };
    private static final Set<String> LIBRARY = Set.of(
            "Arrays.fill", "System.arraycopy", "Math.floorMod", "Math.max");

    private LanguageTest() {
    }

    /** The source with comments, texts and signs blanked. */
    private static String code() throws IOException {
        String source = Files.readString(SOURCE);
        return Pattern.compile("/\\*.*?\\*/|//[^\n]*|\"[^\"\n]*\"|'[^'\n]*'", Pattern.DOTALL)
                .matcher(source).replaceAll(m -> m.group().replaceAll("[^\n]", " "));
    }

    private static void words(String code) {
        for (String word : FORBIDDEN) {
            boolean found = Pattern.compile("\\b" + word + "\\b").matcher(code).find();
            Check.due("4, 6, 13: the word " + word, found ? 1 : 0, 0);
        }
        Check.due("2: lambdas", code.contains("->") ? 1 : 0, 0);
        Check.due("2: method references", code.contains("::") ? 1 : 0, 0);
        Check.due("5: static blocks", Pattern.compile("static\\s*\\{").matcher(code).find() ? 1 : 0, 0);
        Matcher imports = Pattern.compile("\\bimport\\s+([^;]*);").matcher(code);
        while (imports.find()) {
            Check.due("4: import", imports.group(1), "java.util.Arrays");
        }
        Matcher calls = Pattern.compile("\\b(Arrays|System|Math|Integer|Long)\\.(\\w+)").matcher(code);
        while (calls.find()) {
            Check.due("4: " + calls.group(), LIBRARY.contains(calls.group()) ? 1 : 0, 1);
        }
        for (int k = 0; k < code.length(); k++) {
            if (code.charAt(k) > 126) {
                Check.fail("3: sign " + (int) code.charAt(k));
            }
        }
    }

    private static void loops(String code) {
        Check.due("9: while without a counter", Pattern.compile("\\bwhile\\b").matcher(code).find()
                ? 1 : 0, 0);
        Matcher heads = Pattern.compile("\\bfor\\s*\\(([^{]*)\\{").matcher(code);
        while (heads.find()) {
            String head = heads.group(1);
            boolean counts = Pattern.compile("(\\+\\+|--|\\+= 2)\\)\\s*$").matcher(head).find();
            boolean overArray = head.contains(" : ");
            Check.due("9: for (" + head.trim(), counts || overArray ? 1 : 0, 1);
        }
    }

    private static void methodLengths(String code) {
        Pattern start = Pattern.compile("^ {4,8}[\\w\\[\\] ]+\\([\\w\\[\\], ]*\\) \\{$");
        String[] lines = code.split("\n");
        for (int k = 0; k < lines.length; k++) {
            if (start.matcher(lines[k]).matches()) {
                String end = lines[k].replaceAll("\\S.*", "") + "}";
                int last = k;
                while (!lines[last].equals(end)) {
                    last++;
                }
                Check.due("11: " + lines[k].trim(), last - k < 60 ? 1 : 0, 1);
            }
        }
    }

    /** The bodies of all methods by their names; methods of one name count as one. */
    private static Map<String, String> bodies(String code) {
        Map<String, String> bodies = new TreeMap<>();
        Matcher methods = Pattern.compile("(?m)^( {4,8})[\\w\\[\\] ]*?(\\w+)\\([\\w\\[\\], ]*\\) \\{$")
                .matcher(code);
        while (methods.find()) {
            int end = code.indexOf("\n" + methods.group(1) + "}", methods.end());
            bodies.merge(methods.group(2), code.substring(methods.end(), end), String::concat);
        }
        return bodies;
    }

    /** How many calls stand open at most when a method is called; 100 stands for a recursion. */
    private static int depth(String method, Map<String, String> bodies, int open) {
        int deepest = 0;
        Matcher calls = Pattern.compile("\\b(\\w+)\\(").matcher(bodies.get(method));
        while (calls.find() && open < 100) {
            String called = calls.group(1);
            if (bodies.containsKey(called)) {
                deepest = Math.max(deepest, depth(called, bodies, open + 1));
            }
        }
        return open >= 100 ? 100 : 1 + deepest;
    }

    private static void callDepths(String code) {
        Map<String, String> bodies = bodies(code);
        Check.due("11: all public methods are found",
                bodies.keySet().containsAll(publicNames()) ? 1 : 0, 1);
        for (String method : bodies.keySet()) {
            int depth = depth(method, bodies, 0);
            Check.due("8, 11: calls of " + method + " go " + depth + " deep", depth <= 8 ? 1 : 0, 1);
        }
    }

    private static Set<String> publicNames() {
        Set<String> names = new TreeSet<>();
        for (Method method : GroebnerFan.class.getDeclaredMethods()) {
            if (Modifier.isPublic(method.getModifiers())) {
                names.add(method.getName());
            }
        }
        return names;
    }

    private static void members() {
        List<Class<?>> classes = new ArrayList<>(List.of(GroebnerFan.class.getDeclaredClasses()));
        Set<String> publicNames = publicNames();
        for (Class<?> inside : classes) {
            Check.due("2: " + inside.getSimpleName() + " is static",
                    Modifier.isStatic(inside.getModifiers()) ? 1 : 0, 1);
            Check.due("2: " + inside.getSimpleName() + " is not public",
                    Modifier.isPublic(inside.getModifiers()) ? 1 : 0, 0);
            for (Method method : inside.getDeclaredMethods()) {
                Check.due("1: " + inside.getSimpleName() + "." + method.getName(),
                        publicNames.contains(method.getName()) ? 1 : 0, 0);
            }
        }
        classes.add(GroebnerFan.class);
        Check.due("11: at most twelve classes", classes.size() <= 12 ? 1 : 0, 1);
        for (Class<?> one : classes) {
            int fields = 0;
            for (Field field : one.getDeclaredFields()) {
                if (Modifier.isStatic(field.getModifiers())) {
                    Check.due("5: " + field.getName() + " is final",
                            Modifier.isFinal(field.getModifiers()) ? 1 : 0, 1);
                } else {
                    fields++;
                }
            }
            Check.due("11: fields of " + one.getSimpleName(), fields <= 20 ? 1 : 0, 1);
            for (Method method : one.getDeclaredMethods()) {
                Check.due("11: parameters of " + method.getName(),
                        method.getParameterCount() <= 7 ? 1 : 0, 1);
            }
        }
    }

    public static void main(String[] args) throws IOException {
        String code = code();
        words(code);
        loops(code);
        methodLengths(code);
        callDepths(code);
        members();
        Check.finish("LanguageTest");
    }
}
