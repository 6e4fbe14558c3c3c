import java.math.BigInteger;
import java.util.ArrayDeque;
import java.util.ArrayList;
import java.util.Arrays;
import java.util.HashMap;
import java.util.List;
import java.util.Map;

/**
 * The document once more, built otherwise than the program (states that are never changed, flows by
 * recursion, a text cut in tokens first), so that both are seldom wrong in the same way.
 */
final class Model {
    static final int NONE = -1, UNKNOWN = -1000000001, OUTSIDE = -1000000002, NOT = -1000000003, FULL = -1000000004;
    static final long PLUS = 4000000000000000000L;

    record Reach(int below, int k, int x, int parts, List<Integer> side, List<Integer> seen) {
        static Reach fresh(int below, int k, int x, int parts) {
            List<Integer> noughts = List.copyOf(java.util.Collections.nCopies(24, 0));
            return new Reach(below, k, x, parts, noughts, noughts);
        }

        Reach weighed(int newK, int newX) {
            return new Reach(below, newK, newX, parts, side, seen);
        }

        Reach withSide(int t, int v) {
            return new Reach(below, k, x, parts, put(side, t, v), seen);
        }

        Reach withSeen(int t, int v) {
            return new Reach(below, k, x, parts, side, put(seen, t, v));
        }

        private static List<Integer> put(List<Integer> row, int t, int v) {
            List<Integer> copy = new ArrayList<>(row);
            copy.set(t, v);
            return List.copyOf(copy);
        }
    }

    record State(int t, int d, List<Reach> reaches) {
        State with(int r, Reach reach) {
            List<Reach> copy = new ArrayList<>(reaches);
            copy.set(r, reach);
            return new State(t, d, List.copyOf(copy));
        }

        State and(Reach reach) {
            List<Reach> copy = new ArrayList<>(reaches);
            copy.add(reach);
            return new State(t, d, List.copyOf(copy));
        }

        int parts() {
            return reaches.stream().mapToInt(Reach::parts).sum();
        }

        boolean lawful(int k, int x) {
            return 10 * d >= k * x && 20 * k - k * x >= 10 * d;
        }
    }

    record Entry(int r, int t, long v) {
    }

    record Kept(State state, long seed) {
    }

    /** Flows of one state, each reckoned when it is asked for. */
    static final class Flows {
        private final State state;
        private final Map<List<Integer>, BigInteger[]> known = new HashMap<>();

        Flows(State state) {
            this.state = state;
        }

        BigInteger in(int r, int t) {
            BigInteger in = BigInteger.valueOf(state.reaches().get(r).side().get(t));
            for (int u = 0; u < state.reaches().size(); u++) {
                if (state.reaches().get(u).below() == r) {
                    in = in.add(out(u, t));
                }
            }
            return in;
        }

        BigInteger out(int r, int t) {
            return part(r, state.reaches().get(r).parts(), t)[0];
        }

        /** OUT and REST of the p-th PART; of the one ahead of the first, OUT is IN of the REACH. */
        private BigInteger[] part(int r, int p, int t) {
            List<Integer> key = List.of(r, p, t);
            BigInteger[] found = known.get(key);
            if (found == null) {
                found = p == 0 ? new BigInteger[] {in(r, t), BigInteger.ZERO} : reckon(r, p, t);
                known.put(key, found);
            }
            return found;
        }

        private BigInteger[] reckon(int r, int p, int t) {
            BigInteger in = part(r, p - 1, t)[0];
            if (t == 0) {
                return new BigInteger[] {in, BigInteger.ZERO};
            }
            Reach reach = state.reaches().get(r);
            int kx = reach.k() * reach.x();
            int tenD = 10 * state.d();
            BigInteger m = BigInteger.valueOf(20 * reach.k() - kx + tenD);
            BigInteger[] ahead = part(r, p, t - 1);
            BigInteger all = in.multiply(BigInteger.valueOf(tenD - kx))
                .add(part(r, p - 1, t - 1)[0].multiply(BigInteger.valueOf(tenD + kx)))
                .add(ahead[0].multiply(BigInteger.valueOf(20 * reach.k() - kx - tenD)))
                .add(ahead[1]);
            BigInteger rest = all.mod(m);
            return new BigInteger[] {all.subtract(rest).divide(m), rest};
        }

        BigInteger stored(int r, int t) {
            Reach reach = state.reaches().get(r);
            BigInteger stored = BigInteger.ZERO;
            for (int p = 1; p <= reach.parts(); p++) {
                BigInteger[] here = part(r, p, t);
                stored = stored
                    .add(part(r, p - 1, t)[0].multiply(BigInteger.valueOf(reach.k() * reach.x())))
                    .add(here[0].multiply(BigInteger.valueOf(reach.k() * (20 - reach.x()))))
                    .add(here[1]);
            }
            return stored;
        }

        long[] ins(int r) {
            long[] row = new long[state.t()];
            Arrays.setAll(row, t -> in(r, t).longValueExact());
            return row;
        }

        long[] outs(int r) {
            long[] row = new long[state.t()];
            Arrays.setAll(row, t -> out(r, t).longValueExact());
            return row;
        }
    }

    private State state = new State(12, 1, List.of());
    private final StringBuilder text = new StringBuilder();
    private int faultPlace = NONE;
    private long seed = 0;
    private final List<Entry> book = new ArrayList<>();
    private final ArrayDeque<State> past = new ArrayDeque<>();
    private final Kept[] images = new Kept[2];

    private void become(State next) {
        past.addLast(state);
        if (past.size() > 16) {
            past.removeFirst();
        }
        state = next;
    }

    private boolean noReach(int r) {
        return r < 0 || r >= state.reaches().size();
    }

    private boolean noTime(int t) {
        return t < 0 || t >= state.t();
    }

    private static boolean outside(int v, int least, int most) {
        return v < least || v > most;
    }

    int feed(int letter) {
        if (outside(letter, 0, 255)) {
            return OUTSIDE;
        }
        if (text.length() == 200) {
            return FULL;
        }
        return text.append((char) letter).length();
    }

    int river() {
        ModelText reader = new ModelText(text.toString());
        text.setLength(0);
        reader.read();
        if (reader.fault() != 0) {
            faultPlace = reader.place();
            return -10 - reader.fault();
        }
        faultPlace = NONE;
        become(reader.state());
        return state.reaches().size();
    }

    int fault() {
        return faultPlace;
    }

    int told(int what) {
        return switch (what) {
            case 0 -> state.t();
            case 1 -> state.d();
            case 2 -> state.reaches().size();
            case 3 -> state.parts();
            case 4 -> (int) state.reaches().stream().filter(reach -> state.lawful(reach.k(), reach.x())).count();
            case 5 -> text.length();
            case 6 -> book.size();
            case 7 -> wrong();
            case 8 -> past.size();
            case 9 -> (int) seed;
            default -> OUTSIDE;
        };
    }

    private int wrong() {
        Flows flows = new Flows(state);
        for (Entry entry : book) {
            boolean gone = noReach(entry.r()) || noTime(entry.t());
            if (gone || !flows.out(entry.r(), entry.t()).equals(BigInteger.valueOf(entry.v()))) {
                return book.indexOf(entry);
            }
        }
        return NONE;
    }

    int reachAt(int r, int what) {
        if (noReach(r)) {
            return UNKNOWN;
        }
        Reach reach = state.reaches().get(r);
        Flows flows = new Flows(state);
        return switch (what) {
            case 0 -> reach.below();
            case 1 -> reach.k();
            case 2 -> reach.x();
            case 3 -> reach.parts();
            case 4 -> state.lawful(reach.k(), reach.x()) ? 1 : 0;
            case 5 -> peakTime(flows.ins(r));
            case 6 -> peakTime(flows.outs(r));
            case 7 -> through(r);
            case 8 -> unfit(r) ? NONE : narrowest(r);
            case 9 -> unfit(r) ? NONE : lean(r);
            case 10 -> unfit(r) ? NONE : (int) best(r)[1];
            case 11 -> unfit(r) ? NONE : (int) best(r)[2];
            default -> OUTSIDE;
        };
    }

    private static int peakTime(long[] row) {
        long peak = Arrays.stream(row).max().getAsLong();
        int t = 0;
        while (row[t] != peak) {
            t++;
        }
        return t;
    }

    private int through(int r) {
        int count = 1;
        for (int u = 0; u < state.reaches().size(); u++) {
            if (state.reaches().get(u).below() == r) {
                count += through(u);
            }
        }
        return count;
    }

    private boolean unfit(int r) {
        return Arrays.stream(new Flows(state).ins(r)).anyMatch(in -> in < 0 || in > 99999);
    }

    private long[] lineS(int r) {
        long[] in = new Flows(state).ins(r);
        List<Integer> seen = state.reaches().get(r).seen();
        long[] s = new long[state.t()];
        for (int t = 1; t < s.length; t++) {
            s[t] = s[t - 1] + state.d() * in[t] + state.d() * in[t - 1]
                - state.d() * (long) seen.get(t) - state.d() * (long) seen.get(t - 1);
        }
        return s;
    }

    private long[] lineF(int r, int x) {
        long[] in = new Flows(state).ins(r);
        List<Integer> seen = state.reaches().get(r).seen();
        long[] f = new long[state.t()];
        Arrays.setAll(f, t -> x * in[t] + (20 - x) * (long) seen.get(t));
        return f;
    }

    private long loop(int r, int x) {
        long[] s = lineS(r);
        long[] f = lineF(r, x);
        BigInteger area = BigInteger.ZERO;
        for (int t = 0; t < s.length - 1; t++) {
            area = area.add(BigInteger.valueOf(f[t]).multiply(BigInteger.valueOf(s[t + 1])));
            area = area.subtract(BigInteger.valueOf(f[t + 1]).multiply(BigInteger.valueOf(s[t])));
        }
        return area.abs().longValueExact();
    }

    private int narrowest(int r) {
        int found = 10;
        for (int x = 10; x >= 0; x--) {
            if (loop(r, x) <= loop(r, found)) {
                found = x;
            }
        }
        return found;
    }

    private int lean(int r) {
        long[] s = lineS(r);
        long[] f = lineF(r, narrowest(r));
        Arrays.sort(s);
        Arrays.sort(f);
        long width = f[f.length - 1] - f[0];
        return width == 0 ? 0 : (int) Math.min(20, 10 * (s[s.length - 1] - s[0]) / width);
    }

    private long difference(int r, int k, int x) {
        long[] outs = new Flows(state.with(r, state.reaches().get(r).weighed(k, x))).outs(r);
        long sum = 0;
        for (int t = 0; t < outs.length; t++) {
            sum += Math.abs(outs[t] - state.reaches().get(r).seen().get(t));
        }
        return sum;
    }

    /** DIFFERENCE of BEST, its k, its x. */
    private long[] best(int r) {
        long[] best = null;
        for (int k = 20; k >= 0; k--) {
            for (int x = 10; x >= 0; x--) {
                long difference = state.lawful(k, x) ? difference(r, k, x) : Long.MAX_VALUE;
                if (state.lawful(k, x) && (best == null || difference <= best[0])) {
                    best = new long[] {difference, k, x};
                }
            }
        }
        return best;
    }

    int weight(int r, int what) {
        if (noReach(r)) {
            return UNKNOWN;
        }
        int kx = state.reaches().get(r).k() * state.reaches().get(r).x();
        int twentyK = 20 * state.reaches().get(r).k();
        int tenD = 10 * state.d();
        return switch (what) {
            case 0 -> 1000 + tenD - kx;
            case 1 -> tenD + kx;
            case 2 -> 1000 + twentyK - kx - tenD;
            case 3 -> twentyK - kx + tenD;
            default -> OUTSIDE;
        };
    }

    long flow(int r, int t, int what) {
        if (noReach(r) || noTime(t)) {
            return UNKNOWN;
        }
        Flows flows = new Flows(state);
        return switch (what) {
            case 0 -> state.reaches().get(r).side().get(t);
            case 1 -> state.reaches().get(r).seen().get(t);
            case 2 -> PLUS + flows.in(r, t).longValueExact();
            case 3 -> PLUS + flows.out(r, t).longValueExact();
            case 4 -> PLUS + flows.stored(r, t).longValueExact();
            default -> OUTSIDE;
        };
    }

    long sum(int r, int what) {
        if (noReach(r)) {
            return UNKNOWN;
        }
        Reach reach = state.reaches().get(r);
        Flows flows = new Flows(state);
        return switch (what) {
            case 0 -> PLUS + Arrays.stream(flows.ins(r)).max().getAsLong();
            case 1 -> PLUS + Arrays.stream(flows.outs(r)).max().getAsLong();
            case 2 -> PLUS + Arrays.stream(flows.outs(r)).min().getAsLong();
            case 3 -> PLUS + volume(flows.ins(r));
            case 4 -> PLUS + volume(flows.outs(r));
            case 5 -> unfit(r) ? NONE : loop(r, reach.x());
            case 6 -> unfit(r) ? NONE : difference(r, reach.k(), reach.x());
            case 7 -> unfit(r) ? NONE : best(r)[0];
            default -> OUTSIDE;
        };
    }

    /** Each TIME counts twice, but for the first and the last. */
    private long volume(long[] row) {
        return state.d() * (2 * Arrays.stream(row).sum() - row[0] - row[row.length - 1]);
    }

    long would(int r, int q, int k, int x) {
        if (noReach(r) || noReach(q)) {
            return UNKNOWN;
        }
        if (outside(k, 0, 20) || outside(x, 0, 10)) {
            return OUTSIDE;
        }
        Flows flows = new Flows(state.with(q, state.reaches().get(q).weighed(k, x)));
        return PLUS + Arrays.stream(flows.outs(r)).max().getAsLong();
    }

    int times(int t) {
        if (outside(t, 2, 24)) {
            return OUTSIDE;
        }
        int was = state.t();
        become(new State(t, state.d(), state.reaches()));
        return was;
    }

    int step(int d) {
        if (outside(d, 1, 9)) {
            return OUTSIDE;
        }
        int was = state.d();
        become(new State(state.t(), d, state.reaches()));
        return was;
    }

    int reach(int below, int k, int x, int parts) {
        if (below != NONE && noReach(below)) {
            return UNKNOWN;
        }
        if (outside(k, 0, 20) || outside(x, 0, 10) || outside(parts, 1, 4)) {
            return OUTSIDE;
        }
        if (state.reaches().size() == 6 || state.parts() + parts > 8) {
            return FULL;
        }
        become(state.and(Reach.fresh(below, k, x, parts)));
        return state.reaches().size() - 1;
    }

    int change(int r, int k, int x) {
        if (noReach(r)) {
            return UNKNOWN;
        }
        if (outside(k, 0, 20) || outside(x, 0, 10)) {
            return OUTSIDE;
        }
        become(state.with(r, state.reaches().get(r).weighed(k, x)));
        return state.lawful(k, x) ? 1 : 0;
    }

    int side(int r, int t, int v) {
        if (noReach(r) || noTime(t)) {
            return UNKNOWN;
        }
        if (outside(v, 0, 9999)) {
            return OUTSIDE;
        }
        int was = state.reaches().get(r).side().get(t);
        become(state.with(r, state.reaches().get(r).withSide(t, v)));
        return was;
    }

    int seen(int r, int t, int v) {
        if (noReach(r) || noTime(t)) {
            return UNKNOWN;
        }
        if (outside(v, 0, 9999)) {
            return OUTSIDE;
        }
        int was = state.reaches().get(r).seen().get(t);
        become(state.with(r, state.reaches().get(r).withSeen(t, v)));
        return was;
    }

    int show(int r) {
        if (noReach(r)) {
            return UNKNOWN;
        }
        long[] outs = new Flows(state).outs(r);
        Reach reach = state.reaches().get(r);
        int otherwise = 0;
        for (int t = 0; t < outs.length; t++) {
            int v = outs[t] < 0 ? 0 : outs[t] > 9999 ? 9999 : (int) outs[t];
            otherwise += v == outs[t] ? 0 : 1;
            reach = reach.withSeen(t, v);
        }
        become(state.with(r, reach));
        return otherwise;
    }

    int take() {
        int left = state.reaches().size() - 1;
        if (left < 0) {
            return NOT;
        }
        become(new State(state.t(), state.d(), state.reaches().subList(0, left)));
        return left;
    }

    int drift(int n) {
        if (outside(n, 1, 20)) {
            return OUTSIDE;
        }
        for (int i = 0; i < n && !state.reaches().isEmpty(); i++) {
            int r = draw(state.reaches().size());
            int t = draw(state.t());
            int v = 11 * draw(10);
            become(state.with(r, state.reaches().get(r).withSide(t, v)));
        }
        return (int) seed;
    }

    private int draw(int n) {
        seed = BigInteger.valueOf(seed).multiply(BigInteger.valueOf(1103515245)).add(BigInteger.valueOf(12345))
            .mod(BigInteger.TWO.pow(31)).longValueExact();
        return (int) (seed / 65536 % n);
    }

    int undo(int n) {
        if (outside(n, 1, 16)) {
            return OUTSIDE;
        }
        if (n > past.size()) {
            return NOT;
        }
        for (int i = 0; i < n; i++) {
            state = past.removeLast();
        }
        return state.reaches().size();
    }

    int write(int r, int t, long v) {
        if (noReach(r) || noTime(t)) {
            return UNKNOWN;
        }
        if (book.size() == 20) {
            return FULL;
        }
        book.add(new Entry(r, t, v));
        return book.size();
    }

    int tear() {
        int was = book.size();
        book.clear();
        return was;
    }

    int seed(int v) {
        if (v < 0) {
            return OUTSIDE;
        }
        int was = (int) seed;
        seed = v;
        return was;
    }

    int keep(int i) {
        if (outside(i, 0, 1)) {
            return UNKNOWN;
        }
        images[i] = new Kept(state, seed);
        past.clear();
        return 1;
    }

    int goBack(int i) {
        if (outside(i, 0, 1)) {
            return UNKNOWN;
        }
        if (images[i] == null) {
            return NOT;
        }
        state = images[i].state();
        seed = images[i].seed();
        past.clear();
        return 1;
    }
}
