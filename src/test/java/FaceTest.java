import java.io.IOException;
import java.lang.reflect.Constructor;
import java.lang.reflect.Field;
import java.lang.reflect.Method;
import java.lang.reflect.Modifier;
import java.nio.file.Files;
import java.nio.file.Path;
import java.util.ArrayList;
import java.util.Arrays;
import java.util.List;
import java.util.Set;
import java.util.TreeSet;
import java.util.regex.MatchResult;
import java.util.regex.Pattern;

/** The public face as the document writes it, and the heads ahead of its calls; started in the project's folder. */
public final class FaceTest {
    public static void main(String[] args) throws IOException, ReflectiveOperationException {
        String document = Files.readString(Path.of("../shared/DOC.md"));
        String source = Files.readString(Path.of("src/main/java/ReachFlows.java"));
        String face = found("(?s)```java\n(.*?)```", document).get(0).group(1);
        theClass(face);
        constants(face);
        calls(face, source);
        heads(document, source);
        Checks.end();
    }

    private static List<MatchResult> found(String pattern, String text) {
        return Pattern.compile(pattern).matcher(text).results().toList();
    }

    private static void theClass(String face) {
        Checks.holds("the document's class", face.contains("public final class ReachFlows {"));
        int publicFinal = Modifier.PUBLIC | Modifier.FINAL;
        Checks.due("public and final, nothing else", ReachFlows.class.getModifiers(), publicFinal);
        Checks.holds("the document's constructor", face.contains("public ReachFlows();"));
        Constructor<?>[] constructors = ReachFlows.class.getDeclaredConstructors();
        Checks.due("constructors", constructors.length, 1);
        Checks.due("the constructor's parameters", constructors[0].getParameterCount(), 0);
        Checks.due("the constructor is public", constructors[0].getModifiers(), Modifier.PUBLIC);
    }

    private static void constants(String face) throws ReflectiveOperationException {
        Set<String> names = new TreeSet<>();
        for (MatchResult row : found("public static final (int|long) ([^;]+);", face)) {
            for (String constant : row.group(2).split(", ")) {
                String[] sides = constant.split(" = ");
                names.add(sides[0]);
                Field field = ReachFlows.class.getDeclaredField(sides[0]);
                int modifiers = Modifier.PUBLIC | Modifier.STATIC | Modifier.FINAL;
                Checks.due(sides[0] + " is public static final", field.getModifiers(), modifiers);
                Checks.holds(sides[0] + " is " + row.group(1), field.getType().getName().equals(row.group(1)));
                Checks.due(sides[0], ((Number) field.get(null)).longValue(), Long.parseLong(sides[1].replace("L", "")));
            }
        }
        Checks.due("the document's constants", names.size(), 6);
        Set<String> seen = new TreeSet<>();
        for (Field field : ReachFlows.class.getDeclaredFields()) {
            if (!Modifier.isPrivate(field.getModifiers())) {
                seen.add(field.getName());
            }
        }
        Checks.holds("these are all that can be seen: " + seen, seen.equals(names));
    }

    private static void calls(String face, String source) {
        Set<String> wanted = new TreeSet<>();
        for (MatchResult call : found("public (int|long) (\\w+)\\(([^)]*)\\);", face)) {
            wanted.add(call.group(2) + "(" + call.group(3).replaceAll("(\\w+) \\w+", "$1").replace(" ", "") + ") " + call.group(1));
            String head = call.group().replace(";", " {");
            Checks.due("how often the source says " + head, source.split(Pattern.quote(head), -1).length - 1, 1);
        }
        Checks.due("the document's calls", wanted.size(), 24);
        Set<String> seen = new TreeSet<>();
        for (Method method : ReachFlows.class.getDeclaredMethods()) {
            if (!Modifier.isPrivate(method.getModifiers())) {
                List<String> types = Arrays.stream(method.getParameterTypes()).map(Class::getName).toList();
                seen.add(method.getName() + "(" + String.join(",", types) + ") " + method.getReturnType().getName());
                Checks.due(method.getName() + " is public, nothing else", method.getModifiers(), Modifier.PUBLIC);
            }
        }
        Checks.holds("the calls that can be seen are the document's: " + seen, seen.equals(wanted));
    }

    /** Behind each head stand its calls, in the document's order, until the next head. */
    private static void heads(String document, String source) {
        List<MatchResult> heads = found("Ahead of the calls (.*?) the interface says: ---- ([\\w ]+)\\.", document);
        Checks.due("the document's heads", heads.size(), 4);
        String[] behind = source.split("// ---- ");
        Checks.due("the source's heads", behind.length - 1, heads.size());
        for (int i = 0; i < Math.min(heads.size(), behind.length - 1); i++) {
            String name = heads.get(i).group(2);
            Checks.holds("head " + i + " is " + name, behind[i + 1].startsWith(name + "\n"));
            Checks.holds("the calls behind " + name, publicCalls(behind[i + 1]).equals(quoted(heads.get(i).group(1))));
        }
    }

    private static List<String> publicCalls(String source) {
        List<String> names = new ArrayList<>();
        for (MatchResult call : found("public \\w+ (\\w+)\\(", source)) {
            names.add(call.group(1));
        }
        return names;
    }

    private static List<String> quoted(String words) {
        List<String> names = new ArrayList<>();
        for (MatchResult name : found("`(\\w+)`", words)) {
            names.add(name.group(1));
        }
        return names;
    }
}
