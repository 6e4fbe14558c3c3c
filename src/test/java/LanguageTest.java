import java.io.IOException;
import java.lang.reflect.Constructor;
import java.lang.reflect.Field;
import java.lang.reflect.Method;
import java.lang.reflect.Modifier;
import java.nio.file.Files;
import java.nio.file.Path;
import java.util.ArrayList;
import java.util.Arrays;
import java.util.HashSet;
import java.util.List;
import java.util.Set;
import java.util.TreeSet;
import java.util.regex.Pattern;

/** The rules of LANGUAGE.md that can be looked up in the source and in the class; started in the project's folder. */
public final class LanguageTest {
    private static final Set<String> FACE = Set.of(
        "feed(int) int", "river() int", "fault() int", "told(int) int", "reachAt(int,int) int", "weight(int,int) int",
        "flow(int,int,int) long", "sum(int,int) long", "would(int,int,int,int) long", "times(int) int", "step(int) int",
        "reach(int,int,int,int) int", "change(int,int,int) int", "side(int,int,int) int", "seen(int,int,int) int",
        "show(int) int", "take() int", "drift(int) int", "undo(int) int", "write(int,int,long) int", "tear() int",
        "seed(int) int", "keep(int) int", "goBack(int) int");
    private static final Set<String> CONSTANTS = Set.of("NONE", "UNKNOWN", "OUTSIDE", "NOT", "FULL", "PLUS");
    private static final String[] FORBIDDEN = {
        "throw", "throws", "try", "catch", "synchronized", "assert", "package", "volatile", "transient", "native", "Object",
        "double", "float", "Exception", "Error", "Thread", "System\\.(?!arraycopy)", "Random", "Exact", "->", "::", "hashCode", "toString"
    };

    public static void main(String[] args) throws IOException {
        List<String> lines = Files.readAllLines(Path.of("src/main/java/ReachFlows.java"));
        face();
        constants();
        classes();
        forbidden(withoutComments(lines));
        methodLengths(lines);
        Checks.end();
    }

    private static void face() {
        Set<String> found = new TreeSet<>();
        for (Method method : ReachFlows.class.getDeclaredMethods()) {
            if (!Modifier.isPrivate(method.getModifiers())) {
                List<String> types = Arrays.stream(method.getParameterTypes()).map(Class::getSimpleName).toList();
                found.add(method.getName() + "(" + String.join(",", types) + ") " + method.getReturnType().getSimpleName());
                Checks.holds(method.getName() + " is public and not static", method.getModifiers() == Modifier.PUBLIC);
            }
        }
        Checks.holds("the face is the document's: " + found, found.equals(FACE));
        Constructor<?>[] constructors = ReachFlows.class.getDeclaredConstructors();
        Checks.due("constructors", constructors.length, 1);
        Checks.due("the constructor's parameters", constructors[0].getParameterCount(), 0);
        int publicFinal = Modifier.PUBLIC | Modifier.FINAL;
        Checks.due("public final class", ReachFlows.class.getModifiers() & publicFinal, publicFinal);
    }

    private static void constants() {
        Checks.due("NONE", ReachFlows.NONE, -1);
        Checks.due("UNKNOWN", ReachFlows.UNKNOWN, -1000000001);
        Checks.due("OUTSIDE", ReachFlows.OUTSIDE, -1000000002);
        Checks.due("NOT", ReachFlows.NOT, -1000000003);
        Checks.due("FULL", ReachFlows.FULL, -1000000004);
        Checks.due("PLUS", ReachFlows.PLUS, 4000000000000000000L);
        Set<String> found = new HashSet<>();
        for (Field field : ReachFlows.class.getDeclaredFields()) {
            if (!Modifier.isPrivate(field.getModifiers())) {
                found.add(field.getName());
            }
        }
        Checks.holds("the constants are the document's: " + found, found.equals(CONSTANTS));
    }

    private static void classes() {
        List<Class<?>> all = new ArrayList<>(List.of(ReachFlows.class.getDeclaredClasses()));
        Checks.holds("at most twelve classes", all.size() + 1 <= 12);
        all.add(ReachFlows.class);
        Set<String> names = new HashSet<>();
        for (String call : FACE) {
            names.add(call.substring(0, call.indexOf('(')));
        }
        for (Class<?> one : all) {
            Checks.holds(one + " is static", one == ReachFlows.class || Modifier.isStatic(one.getModifiers()));
            int fields = 0;
            for (Field field : one.getDeclaredFields()) {
                boolean isStatic = Modifier.isStatic(field.getModifiers());
                fields += isStatic ? 0 : 1;
                Checks.holds(field + " is final, if static", !isStatic || Modifier.isFinal(field.getModifiers()));
            }
            Checks.holds(one + " has at most twenty fields", fields <= 20);
            for (Method method : one.getDeclaredMethods()) {
                Checks.holds(method + " has at most seven parameters", method.getParameterCount() <= 7);
                Checks.holds(method + " bears no public name", one == ReachFlows.class && Modifier.isPublic(method.getModifiers())
                    || !names.contains(method.getName()));
            }
        }
    }

    private static String withoutComments(List<String> lines) {
        return String.join("\n", lines).replaceAll("(?s)/\\*.*?\\*/", "").replaceAll("//[^\n]*", "");
    }

    private static void forbidden(String source) {
        for (String word : FORBIDDEN) {
            String sign = Character.isLetter(word.charAt(0)) && Character.isLetter(word.charAt(word.length() - 1)) ? "\\b" : "";
            Checks.holds("no " + word, !Pattern.compile(sign + word + sign).matcher(source).find());
        }
        Checks.holds("signs 9 to 126 alone", source.chars().allMatch(sign -> sign == '\n' || sign >= 32 && sign < 127));
        Checks.holds("nothing is imported", !Pattern.compile("\\bimport\\b").matcher(source).find());
    }

    private static void methodLengths(List<String> lines) {
        int from = -1;
        for (int i = 0; i < lines.size(); i++) {
            String line = lines.get(i);
            boolean opens = line.matches("( {4}| {8})[\\w\\[\\] ]+\\([^)]*\\) \\{");
            if (opens) {
                from = i;
            }
            if (from >= 0 && line.equals(lines.get(from).replaceAll("\\S.*", "") + "}")) {
                Checks.holds("at most sixty lines: " + lines.get(from).trim(), i - from < 60);
                from = -1;
            }
        }
    }
}
