import java.io.IOException;

/** Each sentence of the document that names a boundary has a test of its own; started in the project's folder. */
public final class BoundariesTest {
    public static void main(String[] args) throws IOException {
        Document.open();
        setAsideWhatNamesNone();
        RefusalBounds.run();
        RiverBounds.run();
        TextBounds.run();
        AskedBounds.run();
        CallBounds.run();
        DeedBounds.run();
        Document.close();
        Checks.end();
    }

    private static void setAsideWhatNamesNone() {
        String[] words = {
            "Words in capitals are told where they come first. All numbers are whole.",
            "======== 1", "======== 2", "======== 3",
            "Ahead of the calls `feed`, `river`, `fault`, `told`, `reachAt`, `weight`, `flow`, `sum`, `would` the interface says: ---- rivers.",
            "Ahead of the calls `times`, `step`, `reach`, `change`, `side`, `seen`, `show`, `take`, `drift`, `undo` the interface says: ---- deeds.",
            "Ahead of the calls `write`, `tear` the interface says: ---- the book.",
            "Ahead of the calls `seed`, `keep`, `goBack` the interface says: ---- images.",
        };
        for (String each : words) {
            Document.setAside(Document.TERMS, each);
        }
    }
}
