import java.util.ArrayList;
import java.util.List;

/** THE TEXT for the model: cut in tokens first, then judged token by token by what may come next. */
final class ModelText {
    /** A run of figures (kind 'N'), the end (kind 'E'), or one letter that is no blank (itself). */
    private record Token(int kind, int at, String figures) {
    }

    private enum Next { CLAUSE, T, D, BELOW, K, X, PARTS, REACH, FIRST_SIDE, MORE_SIDES, CLOSE }

    private final List<Token> tokens = new ArrayList<>();
    private Next next = Next.CLAUSE;
    private boolean hadT = false, hadD = false, hadOther = false;
    private final int[] numbers = new int[4];
    private int sideReach = 0, sideTime = 0;
    private Model.State state = new Model.State(12, 1, List.of());
    private int fault = 0, place = -1;

    ModelText(String text) {
        int i = 0;
        while (i < text.length()) {
            int from = i;
            while (i < text.length() && "0123456789".indexOf(text.charAt(i)) >= 0) {
                i++;
            }
            if (i > from) {
                tokens.add(new Token('N', from, text.substring(from, i)));
            } else {
                if (text.charAt(i) != ' ') {
                    // Letters that would look like the two kinds are none that may ever stand.
                    int kind = text.charAt(i) == 'N' || text.charAt(i) == 'E' ? '?' : text.charAt(i);
                    tokens.add(new Token(kind, i, ""));
                }
                i++;
            }
        }
        tokens.add(new Token('E', text.length(), ""));
    }

    int fault() {
        return fault;
    }

    int place() {
        return place;
    }

    Model.State state() {
        return state;
    }

    void read() {
        for (int i = 0; i < tokens.size() && fault == 0; i++) {
            judge(tokens.get(i));
        }
    }

    private void bad(int number, int at) {
        fault = number;
        place = at;
    }

    private void judge(Token token) {
        switch (next) {
            case CLAUSE -> clause(token);
            case T -> {
                int t = number(token, 2, 24);
                state = new Model.State(t, state.d(), state.reaches());
                next = Next.CLOSE;
            }
            case D -> {
                int d = number(token, 1, 9);
                state = new Model.State(state.t(), d, state.reaches());
                next = Next.CLOSE;
            }
            case BELOW -> {
                numbers[0] = token.kind() == '-' ? -1 : number(token, 0, state.reaches().size() - 1);
                next = Next.K;
            }
            case K -> {
                numbers[1] = number(token, 0, 20);
                next = Next.X;
            }
            case X -> {
                numbers[2] = number(token, 0, 10);
                next = Next.PARTS;
            }
            case PARTS -> parts(token);
            case REACH -> {
                sideReach = number(token, 0, state.reaches().size() - 1);
                sideTime = 0;
                next = Next.FIRST_SIDE;
            }
            case FIRST_SIDE -> side(token);
            case MORE_SIDES -> {
                if (token.kind() == ';') {
                    next = Next.CLAUSE;
                } else {
                    side(token);
                }
            }
            case CLOSE -> {
                if (token.kind() != ';') {
                    bad(1, token.at());
                }
                next = Next.CLAUSE;
            }
        }
    }

    private void clause(Token token) {
        boolean late = token.kind() == 't' && (hadT || hadOther) || token.kind() == 'd' && (hadD || hadOther);
        if (late) {
            bad(3, token.at());
            return;
        }
        switch (token.kind()) {
            case 't' -> {
                hadT = true;
                next = Next.T;
            }
            case 'd' -> {
                hadD = true;
                next = Next.D;
            }
            case 'r' -> {
                hadOther = true;
                next = Next.BELOW;
                if (state.reaches().size() == 6) {
                    bad(4, token.at());
                }
            }
            case 's' -> {
                hadOther = true;
                next = Next.REACH;
            }
            case 'E' -> {
            }
            default -> bad(1, token.at());
        }
    }

    private int number(Token token, int least, int most) {
        if (token.kind() != 'N') {
            bad(1, token.at());
        } else if (token.figures().length() > 4) {
            bad(2, token.at() + 4);
        } else {
            int value = Integer.parseInt(token.figures());
            if (value < least || value > most) {
                bad(2, token.at());
            }
            return value;
        }
        return 0;
    }

    private void parts(Token token) {
        int parts = number(token, 1, 4);
        if (fault != 0) {
            return;
        }
        if (state.parts() + parts > 8) {
            bad(4, token.at());
            return;
        }
        state = state.and(Model.Reach.fresh(numbers[0], numbers[1], numbers[2], parts));
        next = Next.CLOSE;
    }

    private void side(Token token) {
        if (token.kind() == 'N' && sideTime == state.t()) {
            bad(4, token.at());
            return;
        }
        int v = number(token, 0, 9999);
        if (fault == 0) {
            state = state.with(sideReach, state.reaches().get(sideReach).withSide(sideTime, v));
        }
        sideTime++;
        next = Next.MORE_SIDES;
    }
}
