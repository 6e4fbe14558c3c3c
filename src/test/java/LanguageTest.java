import java.io.IOException;
import java.lang.reflect.Field;
import java.lang.reflect.Method;
import java.lang.reflect.Modifier;
import java.nio.file.Files;
import java.nio.file.Path;
import java.util.ArrayList;
import java.util.HashSet;
import java.util.List;
import java.util.Set;
import java.util.regex.Pattern;

/** The rules of LANGUAGE.md that can be looked up in the source and in the class; started in the project's folder. */
public final class LanguageTest {
    private static final String[] FORBIDDEN = {
        "throw", "throws", "try", "catch", "synchronized", "assert", "package", "volatile", "transient", "native", "Object",
        "double", "float", "Exception\\b", "Error\\b", "Thread", "System\\.(?!arraycopy)", "Random", "Exact\\b", "->", "::", "hashCode",
        "toString"
    };

    public static void main(String[] args) throws IOException {
        List<String> lines = Files.readAllLines(Path.of("src/main/java/ReachFlows.java"));
        classes();
        forbidden(withoutComments(lines));
        methodLengths(lines);
        Checks.end();
    }

    private static void classes() {
        List<Class<?>> all = new ArrayList<>(List.of(ReachFlows.class.getDeclaredClasses()));
        Checks.holds("at most twelve classes", all.size() + 1 <= 12);
        all.add(ReachFlows.class);
        Set<String> names = new HashSet<>();
        for (Method method : ReachFlows.class.getDeclaredMethods()) {
            if (Modifier.isPublic(method.getModifiers())) {
                names.add(method.getName());
            }
        }
        for (Class<?> one : all) {
            Checks.holds(one + " is static", one == ReachFlows.class || Modifier.isStatic(one.getModifiers()));
            int fields = 0;
            for (Field field : one.getDeclaredFields()) {
                boolean isStatic = Modifier.isStatic(field.getModifiers());
                fields += isStatic ? 0 : 1;
                Checks.holds(field + " is final, if static", !isStatic || Modifier.isFinal(field.getModifiers()));
            }
            Checks.holds(one + " has at most twenty fields", fields <= 20);
            for (Method method : one.getDeclaredMethods()) {
                Checks.holds(method + " has at most seven parameters", method.getParameterCount() <= 7);
                Checks.holds(method + " bears no public name", one == ReachFlows.class && Modifier.isPublic(method.getModifiers())
                    || !names.contains(method.getName()));
            }
        }
    }

    private static String withoutComments(List<String> lines) {
        return String.join("\n", lines).replaceAll("(?s)/\\*.*?\\*/", "").replaceAll("//[^\n]*", "");
    }

    private static void forbidden(String source) {
        for (String word : FORBIDDEN) {
            String sign = Character.isLetter(word.charAt(0)) && Character.isLetter(word.charAt(word.length() - 1)) ? "\\b" : "";
            Checks.holds("no " + word, !Pattern.compile(sign + word + sign).matcher(source).find());
        }
        Checks.holds("signs 9 to 126 alone", source.chars().allMatch(sign -> sign == '\n' || sign >= 32 && sign < 127));
        Checks.holds("nothing is imported", !Pattern.compile("\\bimport\\b").matcher(source).find());
    }

    private static void methodLengths(List<String> lines) {
        int from = -1;
        for (int i = 0; i < lines.size(); i++) {
            String line = lines.get(i);
            boolean opens = line.matches("( {4}| {8})[\\w\\[\\] ]+\\([^)]*\\) \\{");
            if (opens) {
                from = i;
            }
            if (from >= 0 && line.equals(lines.get(from).replaceAll("\\S.*", "") + "}")) {
                Checks.holds("at most sixty lines: " + lines.get(from).trim(), i - from < 60);
                from = -1;
            }
        }
    }
}
