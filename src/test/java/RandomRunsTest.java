import java.util.Random;

/** Runs of 512 calls by a fixed random source, each call put to the program and to the model. */
public final class RandomRunsTest {
    private static final int RUNS = 1200, CALLS = 512;
    private static final int[] EXTREMES = {
        Integer.MIN_VALUE, -1000000001, -2, -1, 0, 1, 2, 23, 24, 25, 200, 255, 256, 9999, 10000, Integer.MAX_VALUE
    };

    private final Random random;
    private final ReachFlows flows = new ReachFlows();
    private final Model model = new Model();
    private final String name;
    private int calls = 0;

    private RandomRunsTest(long number) {
        random = new Random(number);
        name = "run " + number;
    }

    public static void main(String[] args) {
        for (int run = 0; run < RUNS && !Checks.anyWrong(); run++) {
            new RandomRunsTest(run).go();
        }
        Checks.end();
    }

    private void go() {
        if (random.nextBoolean()) {
            tellText();
        }
        while (calls < CALLS && !Checks.anyWrong()) {
            one();
        }
    }

    private void answered(String call, long got, long want) {
        calls++;
        Checks.due(name + ", call " + calls + ": " + call, got, want);
    }

    /** Mostly a number within the bounds, at times one beside them or far away. */
    private int pick(int least, int most) {
        int chance = random.nextInt(40);
        if (chance == 0) {
            return EXTREMES[random.nextInt(EXTREMES.length)];
        }
        if (chance == 1) {
            return random.nextBoolean() ? least - 1 : most + 1;
        }
        return least + random.nextInt(most - least + 1);
    }

    private int pickReach() {
        return pick(0, Math.max(0, model.told(2) - 1));
    }

    private int pickTime() {
        return pick(0, model.told(0) - 1);
    }

    private int pickFlow() {
        return random.nextBoolean() ? pick(0, 9999) : random.nextBoolean() ? pick(0, 60) : random.nextBoolean() ? 0 : 9999;
    }

    private void one() {
        int kind = random.nextInt(100);
        if (kind < 55) {
            ask();
        } else if (kind < 86) {
            deed();
        } else if (kind < 98) {
            bookAndImages();
        } else {
            tellText();
        }
    }

    private void ask() {
        int r = pickReach();
        switch (random.nextInt(8)) {
            case 0 -> answered("fault()", flows.fault(), model.fault());
            case 1 -> {
                int what = pick(0, 9);
                answered("told(" + what + ")", flows.told(what), model.told(what));
            }
            case 2, 3 -> {
                int what = pick(0, 11);
                answered("reachAt(" + r + ", " + what + ")", flows.reachAt(r, what), model.reachAt(r, what));
            }
            case 4 -> {
                int what = pick(0, 3);
                answered("weight(" + r + ", " + what + ")", flows.weight(r, what), model.weight(r, what));
            }
            case 5 -> {
                int t = pickTime();
                int what = pick(0, 4);
                answered("flow(" + r + ", " + t + ", " + what + ")", flows.flow(r, t, what), model.flow(r, t, what));
            }
            case 6 -> {
                int what = pick(0, 7);
                answered("sum(" + r + ", " + what + ")", flows.sum(r, what), model.sum(r, what));
            }
            default -> {
                int q = pickReach();
                int k = pick(0, 20);
                int x = pick(0, 10);
                answered("would(" + r + ", " + q + ", " + k + ", " + x + ")", flows.would(r, q, k, x), model.would(r, q, k, x));
            }
        }
    }

    private void deed() {
        int r = pickReach();
        int t = pickTime();
        int k = random.nextInt(3) == 0 ? 20 : pick(0, 20);
        int x = random.nextInt(3) == 0 ? 10 : pick(0, 10);
        int v = pickFlow();
        switch (random.nextInt(13)) {
            case 0 -> {
                int count = pick(2, 24);
                answered("times(" + count + ")", flows.times(count), model.times(count));
            }
            case 1 -> {
                int d = pick(1, 9);
                answered("step(" + d + ")", flows.step(d), model.step(d));
            }
            case 2, 3 -> {
                int below = pick(-1, Math.max(0, model.told(2) - 1));
                int parts = random.nextBoolean() ? 1 : pick(1, 4);
                answered("reach(" + below + ", " + k + ", " + x + ", " + parts + ")",
                    flows.reach(below, k, x, parts), model.reach(below, k, x, parts));
            }
            case 4 -> answered("change(" + r + ", " + k + ", " + x + ")", flows.change(r, k, x), model.change(r, k, x));
            case 5, 6, 7 -> answered("side(" + r + ", " + t + ", " + v + ")", flows.side(r, t, v), model.side(r, t, v));
            case 8 -> answered("seen(" + r + ", " + t + ", " + v + ")", flows.seen(r, t, v), model.seen(r, t, v));
            case 9 -> answered("show(" + r + ")", flows.show(r), model.show(r));
            case 10 -> {
                if (random.nextInt(3) == 0) {
                    answered("take()", flows.take(), model.take());
                }
            }
            case 11 -> {
                int n = pick(1, 20);
                answered("drift(" + n + ")", flows.drift(n), model.drift(n));
            }
            default -> {
                int n = random.nextInt(3) == 0 ? pick(1, 16) : pick(1, 3);
                answered("undo(" + n + ")", flows.undo(n), model.undo(n));
            }
        }
    }

    private void bookAndImages() {
        switch (random.nextInt(12)) {
            case 0, 1, 2, 3, 4, 5 -> writeEntry();
            case 6 -> {
                if (random.nextInt(4) == 0) {
                    answered("tear()", flows.tear(), model.tear());
                }
            }
            case 7 -> {
                int v = random.nextBoolean() ? random.nextInt() : pick(0, 100);
                answered("seed(" + v + ")", flows.seed(v), model.seed(v));
            }
            case 8, 9 -> {
                int i = pick(0, 1);
                answered("keep(" + i + ")", flows.keep(i), model.keep(i));
            }
            default -> {
                int i = pick(0, 1);
                answered("goBack(" + i + ")", flows.goBack(i), model.goBack(i));
            }
        }
    }

    private void writeEntry() {
        int r = pickReach();
        int t = pickTime();
        long out = model.flow(r, t, 3) - Model.PLUS;
        long v = random.nextInt(6) == 0 ? random.nextLong() : out;
        answered("write(" + r + ", " + t + ", " + v + ")", flows.write(r, t, v), model.write(r, t, v));
    }

    private void tellText() {
        String text = new RandomText(random).make();
        for (int i = 0; i < text.length() && calls < CALLS - 2; i++) {
            int letter = text.charAt(i);
            answered("feed(" + letter + ")", flows.feed(letter), model.feed(letter));
        }
        if (random.nextInt(10) > 0 && calls <= CALLS - 2) {
            answered("river() of '" + text + "'", flows.river(), model.river());
            answered("fault() of '" + text + "'", flows.fault(), model.fault());
        }
    }
}
