import java.util.Random;

/** Texts that are rivers, or nearly so. */
final class RandomText {
    private static final String LETTERS = "tdrs-; 0123459;;  rsxTN,\t+";

    private final Random random;
    private final StringBuilder text = new StringBuilder();

    RandomText(Random random) {
        this.random = random;
    }

    String make() {
        if (random.nextInt(3) > 0) {
            clause("t", 2 + random.nextInt(23));
        }
        if (random.nextInt(3) > 0) {
            clause("d", 1 + random.nextInt(9));
        }
        int reaches = random.nextInt(8);
        for (int r = 0; r < reaches; r++) {
            reach(r);
            if (random.nextInt(3) == 0) {
                sides(random.nextInt(r + 1));
            }
        }
        if (random.nextInt(12) == 0) {
            clause(random.nextBoolean() ? "t" : "d", 5);
        }
        int spoils = random.nextInt(3) == 0 ? 1 + random.nextInt(3) : 0;
        for (int i = 0; i < spoils && text.length() > 0; i++) {
            spoil();
        }
        return text.toString();
    }

    private void blanks(int least) {
        int count = random.nextInt(6) == 0 ? least + random.nextInt(2) : least;
        text.append(" ".repeat(count));
    }

    private void clause(String letter, int value) {
        blanks(0);
        text.append(letter);
        blanks(0);
        number(value);
        close();
    }

    private void number(int value) {
        text.append("0".repeat(random.nextInt(12) == 0 ? random.nextInt(4) : 0)).append(value);
    }

    private void close() {
        blanks(0);
        text.append(';');
    }

    private void reach(int r) {
        blanks(0);
        text.append('r');
        blanks(0);
        if (r == 0 || random.nextInt(4) == 0) {
            text.append('-');
            blanks(0);
        } else {
            number(random.nextInt(r));
            blanks(1);
        }
        number(random.nextInt(21));
        blanks(1);
        number(random.nextInt(11));
        blanks(1);
        number(random.nextInt(4) > 0 ? 1 : 1 + random.nextInt(4));
        close();
    }

    private void sides(int r) {
        text.append('s');
        number(r);
        int count = random.nextInt(20) == 0 ? 10 + random.nextInt(16) : 1 + random.nextInt(6);
        for (int i = 0; i < count; i++) {
            blanks(1);
            number(random.nextInt(3) > 0 ? random.nextInt(100) : random.nextInt(10000));
        }
        close();
    }

    private void spoil() {
        int at = random.nextInt(text.length());
        char letter = random.nextInt(20) == 0 ? (char) random.nextInt(256) : LETTERS.charAt(random.nextInt(LETTERS.length()));
        switch (random.nextInt(4)) {
            case 0 -> text.deleteCharAt(at);
            case 1 -> text.insert(at, letter);
            case 2 -> text.setCharAt(at, letter);
            default -> text.setLength(Math.max(at, text.length() - 6));
        }
    }
}
