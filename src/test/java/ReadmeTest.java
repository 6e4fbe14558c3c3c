import java.io.IOException;
import java.nio.file.Files;
import java.nio.file.Path;
import java.util.regex.MatchResult;
import java.util.regex.Pattern;

/** What README.md shows of the class stands here line by line, and answers what is written there; started in the project's folder. */
public final class ReadmeTest {
    private static String readme = "";

    public static void main(String[] args) throws IOException {
        readme = Files.readString(Path.of("README.md"));
        toldByText();
        builtByCalls();
        showsNoOtherLines(Files.readString(Path.of("src/test/java/ReadmeTest.java")));
        namesEveryCall(Files.readString(Path.of("../shared/DOC.md")));
        Checks.end();
    }

    private static void toldByText() {
        ReachFlows told = new ReachFlows();
        for (char letter : "t 6;d 2;r- 4 3 1;s 0 10 50 30 5;".toCharArray()) {
            told.feed(letter);
        }
        int reaches = told.river();
        asWritten("reaches", reaches);
        long out = told.flow(0, 2, 3) - ReachFlows.PLUS;
        asWritten("out", out);
        int when = told.reachAt(0, 6);
        asWritten("when", when);
        for (char letter : "t 25;".toCharArray()) {
            told.feed(letter);
        }
        int refused = told.river();
        asWritten("refused", refused);
        int place = told.fault();
        asWritten("place", place);
    }

    private static void builtByCalls() {
        ReachFlows built = new ReachFlows();
        int timesBefore = built.times(8);
        asWritten("timesBefore", timesBefore);
        int stepBefore = built.step(2);
        asWritten("stepBefore", stepBefore);
        int stream = built.reach(ReachFlows.NONE, 4, 3, 1);
        asWritten("stream", stream);
        int brook = built.reach(stream, 2, 1, 2);
        asWritten("brook", brook);
        built.side(stream, 0, 30);
        built.side(stream, 1, 90);
        built.side(brook, 1, 400);
        long peakIn = built.sum(stream, 0) - ReachFlows.PLUS;
        asWritten("peakIn", peakIn);
        long peakOut = built.sum(stream, 1) - ReachFlows.PLUS;
        asWritten("peakOut", peakOut);
        long would = built.would(stream, brook, 8, 1) - ReachFlows.PLUS;
        asWritten("would", would);
        int otherwise = built.show(stream);
        asWritten("otherwise", otherwise);
        int lawful = built.change(stream, 20, 10);
        asWritten("lawful", lawful);
        int bestK = built.reachAt(stream, 10);
        asWritten("bestK", bestK);
        int bestX = built.reachAt(stream, 11);
        asWritten("bestX", bestX);
        int kept = built.keep(0);
        asWritten("kept", kept);
        int left = built.take();
        asWritten("left", left);
        int undone = built.undo(1);
        asWritten("undone", undone);
        int entries = built.write(stream, 0, 30);
        asWritten("entries", entries);
        int wrong = built.told(7);
        asWritten("wrong", wrong);
        int unknown = built.side(stream, 9, 1);
        asWritten("unknown", unknown);
    }

    /** The number that README.md writes behind the line that gives this name its answer. */
    private static void asWritten(String name, long answer) {
        MatchResult[] lines = found("(?m)^(?:int|long) " + name + " = .*; +// (-?\\d+)(?:: .*)?$", readme);
        Checks.due("lines of README.md that tell " + name, lines.length, 1);
        for (MatchResult line : lines) {
            Checks.due(name + " of README.md", Long.parseLong(line.group(1)), answer);
        }
    }

    private static void showsNoOtherLines(String source) {
        MatchResult[] blocks = found("(?s)```java\n(.*?)```", readme);
        Checks.due("blocks of Java in README.md", blocks.length, 2);
        for (MatchResult block : blocks) {
            for (String line : block.group(1).split("\n")) {
                String code = line.replaceAll(" *//.*", "").trim();
                Checks.holds("ReadmeTest has the line: " + code, source.contains("    " + code + "\n"));
            }
        }
    }

    private static void namesEveryCall(String document) {
        MatchResult[] calls = found("public (?:int|long) (\\w+)\\(([^)]*)\\);", document);
        Checks.due("calls of the document", calls.length, 24);
        for (MatchResult call : calls) {
            String brief = "`" + call.group(1) + "(" + call.group(2).replaceAll("(int|long) ", "") + ")`";
            Checks.holds("README.md names " + brief, readme.contains(brief));
        }
    }

    private static MatchResult[] found(String pattern, String text) {
        return Pattern.compile(pattern).matcher(text).results().toArray(MatchResult[]::new);
    }
}
