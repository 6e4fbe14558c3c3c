import java.util.Random;

/** Texts by a fixed random source, each read by the program and by the model. */
public final class RandomTextsTest {
    private static final int TEXTS = 60000;

    public static void main(String[] args) {
        Random random = new Random(7);
        int[] met = new int[15];
        for (int i = 0; i < TEXTS && !Checks.anyWrong(); i++) {
            String text = new RandomText(random).make();
            // Longer ones lose their end by what feed refuses, which is a text as well.
            met[compare(text)]++;
        }
        for (int fault = 11; fault <= 14; fault++) {
            Checks.holds("fault " + (fault - 10) + " was met often", met[fault] > 200);
        }
        Checks.holds("texts without a fault were met often", met[0] > 10000);
        Checks.end();
    }

    private static int compare(String text) {
        ReachFlows flows = new ReachFlows();
        Model model = new Model();
        for (int i = 0; i < text.length(); i++) {
            Checks.due("feed of letter " + i + " of '" + text + "'", flows.feed(text.charAt(i)), model.feed(text.charAt(i)));
        }
        int answer = flows.river();
        Checks.due("river() of '" + text + "'", answer, model.river());
        Checks.due("fault() of '" + text + "'", flows.fault(), model.fault());
        for (int what = 0; what < 10; what++) {
            Checks.due("told(" + what + ") of '" + text + "'", flows.told(what), model.told(what));
        }
        for (int r = 0; r < model.told(2); r++) {
            compareReach(flows, model, r, text);
        }
        return Math.max(0, -answer);
    }

    private static void compareReach(ReachFlows flows, Model model, int r, String text) {
        for (int what = 0; what < 4; what++) {
            Checks.due("reachAt(" + r + ", " + what + ") of '" + text + "'", flows.reachAt(r, what), model.reachAt(r, what));
        }
        for (int t = 0; t < model.told(0); t++) {
            Checks.due("SIDE " + r + ", " + t + " of '" + text + "'", flows.flow(r, t, 0), model.flow(r, t, 0));
        }
    }
}
