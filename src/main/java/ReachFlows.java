public final class ReachFlows {
    public static final int NONE = -1, UNKNOWN = -1000000001, OUTSIDE = -1000000002, NOT = -1000000003, FULL = -1000000004;
    public static final long PLUS = 4000000000000000000L;

    private static final int TIMES_LEAST = 2, TIMES_MOST = 24, TIMES_FIRST = 12;
    private static final int STEP_LEAST = 1, STEP_MOST = 9, STEP_FIRST = 1;
    private static final int REACHES_MOST = 6, K_MOST = 20, X_MOST = 10;
    private static final int PARTS_LEAST = 1, PARTS_MOST = 4, PARTS_OF_ALL_MOST = 8;
    private static final int FLOW_MOST = 9999, FITTED_IN_MOST = 99999;
    private static final int LETTERS_MOST = 200, LETTER_MOST = 255;
    private static final int ENTRIES_MOST = 20, DEEDS_MOST = 16, IMAGES = 2, DRIFT_MOST = 20;

    private static final int BELOW = 0, K = 1, X = 2, PARTS = 3, FEATURES = 4;
    private static final int ENTRY_REACH = 0, ENTRY_TIME = 1, ENTRY_OUT = 2, ENTRY_FEATURES = 3;

    private final River now = new River();
    private final River other = new River();
    private final Routing routing = new Routing();
    private final Fitting fitting = new Fitting();
    private final Text text = new Text();
    private final Book book = new Book();
    private final Past past = new Past();
    private final Draws draws = new Draws();
    private final Image[] images = new Image[IMAGES];
    private int faultPlace = NONE;

    public ReachFlows() {
        for (int i = 0; i < images.length; i++) {
            images[i] = new Image();
        }
    }

    // ---- rivers

    public int feed(int letter) {
        if (outOf(letter, 0, LETTER_MOST)) {
            return OUTSIDE;
        }
        if (text.isFull()) {
            return FULL;
        }
        text.append(letter);
        return text.letterCount();
    }

    public int river() {
        int faultNumber = text.readInto(other);
        faultPlace = text.placeOfFault();
        text.clear();
        if (faultNumber != 0) {
            return -10 - faultNumber;
        }
        past.remember(now);
        now.copyFrom(other);
        return now.reachCount();
    }

    public int fault() {
        return faultPlace;
    }

    public int told(int what) {
        switch (what) {
            case 0:
                return now.timeCount();
            case 1:
                return now.timeStep();
            case 2:
                return now.reachCount();
            case 3:
                return now.partsOfAll();
            case 4:
                return now.lawfulCount();
            case 5:
                return text.letterCount();
            case 6:
                return book.entryCount();
            case 7:
                routing.runAll(now);
                return book.firstWrong(now, routing);
            case 8:
                return past.deedCount();
            case 9:
                return draws.value();
            default:
                return OUTSIDE;
        }
    }

    public int reachAt(int r, int what) {
        if (!now.hasReach(r)) {
            return UNKNOWN;
        }
        switch (what) {
            case 0:
            case 1:
            case 2:
            case 3:
                return now.featureOf(r, what);
            case 4:
                return now.isLawful(r) ? 1 : 0;
            case 5:
                routing.runAll(now);
                return routing.timeOfPeakIn(r);
            case 6:
                routing.runAll(now);
                return routing.timeOfPeakOut(r);
            case 7:
                return now.countThrough(r);
            case 8:
            case 9:
            case 10:
            case 11:
                return fittedAt(r, what);
            default:
                return OUTSIDE;
        }
    }

    private int fittedAt(int r, int what) {
        routing.runAll(now);
        if (!fitting.canFit(now, routing, r)) {
            return NONE;
        }
        if (what == 8 || what == 9) {
            int x = fitting.narrowestX(now, routing, r);
            return what == 8 ? x : fitting.leanBy(now, routing, r, x);
        }
        fitting.findBest(now, routing, r);
        return what == 10 ? fitting.bestK() : fitting.bestX();
    }

    public int weight(int r, int what) {
        if (!now.hasReach(r)) {
            return UNKNOWN;
        }
        int d = now.timeStep();
        int k = now.featureOf(r, K);
        int x = now.featureOf(r, X);
        switch (what) {
            case 0:
                return River.weightA(d, k, x) + 1000;
            case 1:
                return River.weightB(d, k, x);
            case 2:
                return River.weightC(d, k, x) + 1000;
            case 3:
                return River.weightM(d, k, x);
            default:
                return OUTSIDE;
        }
    }

    public long flow(int r, int t, int what) {
        if (!now.hasReach(r) || !now.hasTime(t)) {
            return UNKNOWN;
        }
        switch (what) {
            case 0:
                return now.sideAt(r, t);
            case 1:
                return now.seenAt(r, t);
            case 2:
                routing.runAll(now);
                return PLUS + routing.inAt(r, t);
            case 3:
                routing.runAll(now);
                return PLUS + routing.outAt(r, t);
            case 4:
                routing.runAll(now);
                return PLUS + routing.storedAt(r, t);
            default:
                return OUTSIDE;
        }
    }

    public long sum(int r, int what) {
        if (!now.hasReach(r)) {
            return UNKNOWN;
        }
        if (outOf(what, 0, 7)) {
            return OUTSIDE;
        }
        routing.runAll(now);
        switch (what) {
            case 0:
                return PLUS + routing.inAt(r, routing.timeOfPeakIn(r));
            case 1:
                return PLUS + routing.peakOut(r);
            case 2:
                return PLUS + routing.leastOut(r);
            case 3:
                return PLUS + routing.volumeIn(r);
            case 4:
                return PLUS + routing.volumeOut(r);
            default:
                return fittedSum(r, what);
        }
    }

    private long fittedSum(int r, int what) {
        if (!fitting.canFit(now, routing, r)) {
            return NONE;
        }
        if (what == 5) {
            return fitting.loopBy(now, routing, r, now.featureOf(r, X));
        }
        if (what == 6) {
            return fitting.differenceBy(now, routing, r, now.featureOf(r, K), now.featureOf(r, X));
        }
        fitting.findBest(now, routing, r);
        return fitting.bestDifference();
    }

    public long would(int r, int q, int k, int x) {
        if (!now.hasReach(r) || !now.hasReach(q)) {
            return UNKNOWN;
        }
        if (outOf(k, 0, K_MOST) || outOf(x, 0, X_MOST)) {
            return OUTSIDE;
        }
        other.copyFrom(now);
        other.setWeights(q, k, x);
        routing.runAll(other);
        return PLUS + routing.peakOut(r);
    }

    // ---- deeds

    public int times(int t) {
        if (outOf(t, TIMES_LEAST, TIMES_MOST)) {
            return OUTSIDE;
        }
        past.remember(now);
        int before = now.timeCount();
        now.setTimeCount(t);
        return before;
    }

    public int step(int d) {
        if (outOf(d, STEP_LEAST, STEP_MOST)) {
            return OUTSIDE;
        }
        past.remember(now);
        int before = now.timeStep();
        now.setTimeStep(d);
        return before;
    }

    public int reach(int below, int k, int x, int parts) {
        if (below != NONE && !now.hasReach(below)) {
            return UNKNOWN;
        }
        if (outOf(k, 0, K_MOST) || outOf(x, 0, X_MOST) || outOf(parts, PARTS_LEAST, PARTS_MOST)) {
            return OUTSIDE;
        }
        if (!now.hasRoomForReach() || parts > now.roomForParts()) {
            return FULL;
        }
        past.remember(now);
        now.addReach(below, k, x, parts);
        return now.reachCount() - 1;
    }

    public int change(int r, int k, int x) {
        if (!now.hasReach(r)) {
            return UNKNOWN;
        }
        if (outOf(k, 0, K_MOST) || outOf(x, 0, X_MOST)) {
            return OUTSIDE;
        }
        past.remember(now);
        now.setWeights(r, k, x);
        return now.isLawful(r) ? 1 : 0;
    }

    public int side(int r, int t, int v) {
        if (!now.hasReach(r) || !now.hasTime(t)) {
            return UNKNOWN;
        }
        if (outOf(v, 0, FLOW_MOST)) {
            return OUTSIDE;
        }
        past.remember(now);
        int before = now.sideAt(r, t);
        now.setSide(r, t, v);
        return before;
    }

    public int seen(int r, int t, int v) {
        if (!now.hasReach(r) || !now.hasTime(t)) {
            return UNKNOWN;
        }
        if (outOf(v, 0, FLOW_MOST)) {
            return OUTSIDE;
        }
        past.remember(now);
        int before = now.seenAt(r, t);
        now.setSeen(r, t, v);
        return before;
    }

    public int show(int r) {
        if (!now.hasReach(r)) {
            return UNKNOWN;
        }
        past.remember(now);
        routing.runAll(now);
        int otherwise = 0;
        for (int t = 0; t < now.timeCount(); t++) {
            long out = routing.outAt(r, t);
            long shown = Math.max(0, Math.min(FLOW_MOST, out));
            now.setSeen(r, t, (int) shown);
            if (shown != out) {
                otherwise++;
            }
        }
        return otherwise;
    }

    public int take() {
        if (now.reachCount() == 0) {
            return NOT;
        }
        past.remember(now);
        now.dropReach();
        return now.reachCount();
    }

    public int drift(int n) {
        if (outOf(n, 1, DRIFT_MOST)) {
            return OUTSIDE;
        }
        // Without a REACH not even THE SEED moves.
        for (int i = 0; i < n && now.reachCount() > 0; i++) {
            past.remember(now);
            int r = draws.next(now.reachCount());
            int t = draws.next(now.timeCount());
            now.setSide(r, t, 11 * draws.next(10));
        }
        return draws.value();
    }

    public int undo(int n) {
        if (outOf(n, 1, DEEDS_MOST)) {
            return OUTSIDE;
        }
        if (n > past.deedCount()) {
            return NOT;
        }
        past.restore(n, now);
        return now.reachCount();
    }

    // ---- the book

    public int write(int r, int t, long v) {
        if (!now.hasReach(r) || !now.hasTime(t)) {
            return UNKNOWN;
        }
        if (book.isFull()) {
            return FULL;
        }
        book.add(r, t, v);
        return book.entryCount();
    }

    public int tear() {
        int before = book.entryCount();
        book.clear();
        return before;
    }

    // ---- images

    public int seed(int v) {
        if (v < 0) {
            return OUTSIDE;
        }
        int before = draws.value();
        draws.setValue(v);
        return before;
    }

    public int keep(int i) {
        Image image = imageAt(i);
        if (image == null) {
            return UNKNOWN;
        }
        image.fill(now, draws);
        past.forget();
        return 1;
    }

    public int goBack(int i) {
        Image image = imageAt(i);
        if (image == null) {
            return UNKNOWN;
        }
        if (!image.isKept()) {
            return NOT;
        }
        image.bringBack(now, draws);
        past.forget();
        return 1;
    }

    private Image imageAt(int i) {
        return outOf(i, 0, images.length - 1) ? null : images[i];
    }

    private static boolean outOf(int number, int least, int most) {
        return number < least || number > most;
    }

    /** Numbers in rows. Every index is tested here, so that no caller can make the machine throw. */
    private static final class Cells {
        private final long[] values;
        private final int rows;
        private final int columns;

        Cells(int rows, int columns) {
            this.rows = Math.max(0, rows);
            this.columns = Math.max(0, columns);
            this.values = new long[this.rows * this.columns];
        }

        long at(int row, int column) {
            if (row < 0 || row >= rows || column < 0 || column >= columns) {
                return 0;
            }
            return values[row * columns + column];
        }

        void put(int row, int column, long value) {
            if (row < 0 || row >= rows || column < 0 || column >= columns) {
                return;
            }
            values[row * columns + column] = value;
        }

        void clearRow(int row) {
            for (int column = 0; column < columns; column++) {
                put(row, column, 0);
            }
        }

        void copyFrom(Cells from) {
            int length = Math.min(values.length, from.values.length);
            System.arraycopy(from.values, 0, values, 0, length);
        }
    }

    /** All of section 1 that is told; what follows from it is the Routing's. */
    private static final class River {
        private final Cells features = new Cells(REACHES_MOST, FEATURES);
        // These have all TIMES that could be, since those beyond T are to be there again.
        private final Cells sides = new Cells(REACHES_MOST, TIMES_MOST);
        private final Cells seens = new Cells(REACHES_MOST, TIMES_MOST);
        private int timeCount = TIMES_FIRST;
        private int timeStep = STEP_FIRST;
        private int reachCount = 0;

        River() {
        }

        /** As at first; a REACH finds its rows cleared when it comes. */
        void clear() {
            timeCount = TIMES_FIRST;
            timeStep = STEP_FIRST;
            reachCount = 0;
        }

        void copyFrom(River from) {
            features.copyFrom(from.features);
            sides.copyFrom(from.sides);
            seens.copyFrom(from.seens);
            timeCount = from.timeCount;
            timeStep = from.timeStep;
            reachCount = from.reachCount;
        }

        static int weightA(int d, int k, int x) {
            return 10 * d - k * x;
        }

        static int weightB(int d, int k, int x) {
            return 10 * d + k * x;
        }

        static int weightC(int d, int k, int x) {
            return 20 * k - k * x - 10 * d;
        }

        static int weightM(int d, int k, int x) {
            return 20 * k - k * x + 10 * d;
        }

        static boolean areLawful(int d, int k, int x) {
            return weightA(d, k, x) >= 0 && weightC(d, k, x) >= 0;
        }

        int timeCount() {
            return timeCount;
        }

        void setTimeCount(int count) {
            timeCount = count;
        }

        int timeStep() {
            return timeStep;
        }

        void setTimeStep(int d) {
            timeStep = d;
        }

        int reachCount() {
            return reachCount;
        }

        boolean hasReach(int r) {
            return r >= 0 && r < reachCount;
        }

        boolean hasTime(int t) {
            return t >= 0 && t < timeCount;
        }

        int featureOf(int r, int feature) {
            return (int) features.at(r, feature);
        }

        void setWeights(int r, int k, int x) {
            features.put(r, K, k);
            features.put(r, X, x);
        }

        boolean isLawful(int r) {
            return areLawful(timeStep, featureOf(r, K), featureOf(r, X));
        }

        int lawfulCount() {
            int count = 0;
            for (int r = 0; r < reachCount; r++) {
                if (isLawful(r)) {
                    count++;
                }
            }
            return count;
        }

        int partsOfAll() {
            int parts = 0;
            for (int r = 0; r < reachCount; r++) {
                parts += (int) features.at(r, PARTS);
            }
            return parts;
        }

        boolean hasRoomForReach() {
            return reachCount < REACHES_MOST;
        }

        int roomForParts() {
            return PARTS_OF_ALL_MOST - partsOfAll();
        }

        void addReach(int below, int k, int x, int parts) {
            if (!hasRoomForReach()) {
                return;
            }
            int r = reachCount;
            features.put(r, BELOW, below);
            features.put(r, PARTS, parts);
            setWeights(r, k, x);
            // A REACH of this number may have been here and gone.
            sides.clearRow(r);
            seens.clearRow(r);
            reachCount++;
        }

        void dropReach() {
            if (reachCount > 0) {
                reachCount--;
            }
        }

        int countThrough(int r) {
            int count = 0;
            for (int from = r; from < reachCount; from++) {
                if (flowsThrough(from, r)) {
                    count++;
                }
            }
            return count;
        }

        private boolean flowsThrough(int from, int r) {
            int at = from;
            // BELOW is always of lesser number, so that the way down ends.
            for (int i = 0; i < REACHES_MOST && at > r; i++) {
                at = featureOf(at, BELOW);
            }
            return at == r;
        }

        int sideAt(int r, int t) {
            return (int) sides.at(r, t);
        }

        void setSide(int r, int t, int v) {
            sides.put(r, t, v);
        }

        int seenAt(int r, int t) {
            return (int) seens.at(r, t);
        }

        void setSeen(int r, int t, int v) {
            seens.put(r, t, v);
        }
    }

    /** What comes in, goes out and is stored, in the River that it ran through last. */
    private static final class Routing {
        private final Cells ins = new Cells(REACHES_MOST, TIMES_MOST);
        private final Cells outs = new Cells(REACHES_MOST, TIMES_MOST);
        private final Cells storeds = new Cells(REACHES_MOST, TIMES_MOST);
        // One row: what leaves the PART that was passed last; and what all PARTS passed hold.
        private final Cells leaving = new Cells(1, TIMES_MOST);
        private final Cells held = new Cells(1, TIMES_MOST);
        private int timeCount = 0;
        private int timeStep = 0;

        Routing() {
        }

        void runAll(River river) {
            timeCount = river.timeCount();
            timeStep = river.timeStep();
            // Whatever flows into a REACH has a greater number than it.
            for (int r = river.reachCount() - 1; r >= 0; r--) {
                gatherIn(river, r);
                passReach(r, river.featureOf(r, PARTS), river.featureOf(r, K), river.featureOf(r, X));
                for (int t = 0; t < timeCount; t++) {
                    outs.put(r, t, leaving.at(0, t));
                    storeds.put(r, t, held.at(0, t));
                }
            }
        }

        private void gatherIn(River river, int r) {
            for (int t = 0; t < timeCount; t++) {
                long in = river.sideAt(r, t);
                for (int from = r + 1; from < river.reachCount(); from++) {
                    if (river.featureOf(from, BELOW) == r) {
                        in += outs.at(from, t);
                    }
                }
                ins.put(r, t, in);
            }
        }

        /** What would leave REACH r, and be held in it, by its IN and this K, X; its OUT and STORED stay. */
        void passReach(int r, int parts, int k, int x) {
            for (int t = 0; t < timeCount; t++) {
                leaving.put(0, t, ins.at(r, t));
                held.put(0, t, 0);
            }
            for (int part = 0; part < parts; part++) {
                passPart(k, x);
            }
        }

        private void passPart(int k, int x) {
            long a = River.weightA(timeStep, k, x);
            long b = River.weightB(timeStep, k, x);
            long c = River.weightC(timeStep, k, x);
            long m = River.weightM(timeStep, k, x);
            if (m <= 0) {
                return;
            }
            long inAhead = 0;
            long out = 0;
            long rest = 0;
            for (int t = 0; t < timeCount; t++) {
                long in = leaving.at(0, t);
                if (t == 0) {
                    out = in;
                } else {
                    long together = a * in + b * inAhead + c * out + rest;
                    out = Math.floorDiv(together, m);
                    rest = Math.floorMod(together, m);
                }
                inAhead = in;
                leaving.put(0, t, out);
                held.put(0, t, held.at(0, t) + k * (x * in + (20 - x) * out) + rest);
            }
        }

        long inAt(int r, int t) {
            return ins.at(r, t);
        }

        long outAt(int r, int t) {
            return outs.at(r, t);
        }

        long storedAt(int r, int t) {
            return storeds.at(r, t);
        }

        long leavingAt(int t) {
            return leaving.at(0, t);
        }

        int timeOfPeakIn(int r) {
            return timeOfPeak(ins, r);
        }

        int timeOfPeakOut(int r) {
            return timeOfPeak(outs, r);
        }

        long peakOut(int r) {
            return outs.at(r, timeOfPeakOut(r));
        }

        long leastOut(int r) {
            long least = outs.at(r, 0);
            for (int t = 1; t < timeCount; t++) {
                least = Math.min(least, outs.at(r, t));
            }
            return least;
        }

        long volumeIn(int r) {
            return volume(ins, r);
        }

        long volumeOut(int r) {
            return volume(outs, r);
        }

        private int timeOfPeak(Cells flows, int r) {
            int peakTime = 0;
            for (int t = 1; t < timeCount; t++) {
                if (flows.at(r, t) > flows.at(r, peakTime)) {
                    peakTime = t;
                }
            }
            return peakTime;
        }

        private long volume(Cells flows, int r) {
            long volume = 0;
            for (int t = 0; t + 1 < timeCount; t++) {
                volume += timeStep * (flows.at(r, t) + flows.at(r, t + 1));
            }
            return volume;
        }
    }

    /** A REACH fitted to its SEEN; the Routing must have run through the River as it is. */
    private static final class Fitting {
        private int bestK = 0;
        private int bestX = 0;
        private long bestDifference = 0;

        Fitting() {
        }

        boolean canFit(River river, Routing routing, int r) {
            for (int t = 0; t < river.timeCount(); t++) {
                long in = routing.inAt(r, t);
                if (in < 0 || in > FITTED_IN_MOST) {
                    return false;
                }
            }
            return true;
        }

        long loopBy(River river, Routing routing, int r, int x) {
            long area = 0;
            long s = 0;
            for (int t = 0; t + 1 < river.timeCount(); t++) {
                long sNext = s + growth(river, routing, r, t);
                area += flowBy(river, routing, r, t, x) * sNext - flowBy(river, routing, r, t + 1, x) * s;
                s = sNext;
            }
            return Math.abs(area);
        }

        /** How much more S is at the TIME behind t than at t. */
        private long growth(River river, Routing routing, int r, int t) {
            long in = routing.inAt(r, t) + routing.inAt(r, t + 1);
            long seen = river.seenAt(r, t) + river.seenAt(r, t + 1);
            return river.timeStep() * (in - seen);
        }

        private long flowBy(River river, Routing routing, int r, int t, int x) {
            return x * routing.inAt(r, t) + (20L - x) * river.seenAt(r, t);
        }

        int narrowestX(River river, Routing routing, int r) {
            int narrowest = 0;
            long least = loopBy(river, routing, r, 0);
            for (int x = 1; x <= X_MOST; x++) {
                long loop = loopBy(river, routing, r, x);
                if (loop < least) {
                    least = loop;
                    narrowest = x;
                }
            }
            return narrowest;
        }

        int leanBy(River river, Routing routing, int r, int x) {
            long flowWidth = flowWidth(river, routing, r, x);
            if (flowWidth <= 0) {
                return 0;
            }
            return (int) Math.min(K_MOST, 10 * storedWidth(river, routing, r) / flowWidth);
        }

        private long flowWidth(River river, Routing routing, int r, int x) {
            long least = flowBy(river, routing, r, 0, x);
            long greatest = least;
            for (int t = 1; t < river.timeCount(); t++) {
                long f = flowBy(river, routing, r, t, x);
                least = Math.min(least, f);
                greatest = Math.max(greatest, f);
            }
            return greatest - least;
        }

        private long storedWidth(River river, Routing routing, int r) {
            long least = 0;
            long greatest = 0;
            long s = 0;
            for (int t = 0; t + 1 < river.timeCount(); t++) {
                s += growth(river, routing, r, t);
                least = Math.min(least, s);
                greatest = Math.max(greatest, s);
            }
            return greatest - least;
        }

        long differenceBy(River river, Routing routing, int r, int k, int x) {
            routing.passReach(r, river.featureOf(r, PARTS), k, x);
            long difference = 0;
            for (int t = 0; t < river.timeCount(); t++) {
                difference += Math.abs(routing.leavingAt(t) - river.seenAt(r, t));
            }
            return difference;
        }

        void findBest(River river, Routing routing, int r) {
            boolean found = false;
            for (int k = 0; k <= K_MOST; k++) {
                for (int x = 0; x <= X_MOST; x++) {
                    if (!River.areLawful(river.timeStep(), k, x)) {
                        continue;
                    }
                    long difference = differenceBy(river, routing, r, k, x);
                    if (!found || difference < bestDifference) {
                        found = true;
                        bestK = k;
                        bestX = x;
                        bestDifference = difference;
                    }
                }
            }
        }

        int bestK() {
            return bestK;
        }

        int bestX() {
            return bestX;
        }

        long bestDifference() {
            return bestDifference;
        }
    }

    /** THE TEXT, read from its first letter on until the first that has a FAULT. */
    private static final class Text {
        private static final int MISPLACED = 1, OUT_OF_BOUNDS = 2, TOO_LATE = 3, TOO_MANY = 4;
        private static final int BLANK = ' ', FIGURES_MOST = 4;

        private final int[] letters = new int[LETTERS_MOST];
        private int length = 0;
        private int place = 0;
        private int faultNumber = 0;
        private int faultPlace = NONE;
        private boolean timesTold = false;
        private boolean stepTold = false;

        Text() {
        }

        boolean isFull() {
            return length >= letters.length;
        }

        void append(int letter) {
            if (length < letters.length) {
                letters[length] = letter;
                length++;
            }
        }

        int letterCount() {
            return length;
        }

        void clear() {
            length = 0;
        }

        int placeOfFault() {
            return faultPlace;
        }

        /** The number of the FAULT, 0 without one; with one the River is of no use. */
        int readInto(River river) {
            place = 0;
            faultNumber = 0;
            faultPlace = NONE;
            timesTold = false;
            stepTold = false;
            river.clear();
            for (int i = 0; i <= LETTERS_MOST && isSound(); i++) {
                skipBlanks();
                if (place >= length) {
                    break;
                }
                readClause(river);
            }
            return faultNumber;
        }

        private void readClause(River river) {
            switch (letterHere()) {
                case 't':
                    readTimes(river);
                    break;
                case 'd':
                    readStep(river);
                    break;
                case 'r':
                    readReach(river);
                    break;
                case 's':
                    readSides(river);
                    break;
                default:
                    fail(MISPLACED, place);
                    break;
            }
        }

        private void readTimes(River river) {
            if (timesTold || hasOthers(river)) {
                fail(TOO_LATE, place);
                return;
            }
            timesTold = true;
            place++;
            int count = readNumber(TIMES_LEAST, TIMES_MOST);
            closeClause();
            if (isSound()) {
                river.setTimeCount(count);
            }
        }

        private void readStep(River river) {
            if (stepTold || hasOthers(river)) {
                fail(TOO_LATE, place);
                return;
            }
            stepTold = true;
            place++;
            int d = readNumber(STEP_LEAST, STEP_MOST);
            closeClause();
            if (isSound()) {
                river.setTimeStep(d);
            }
        }

        /** An 's' without an 'r' ahead of it has a FAULT of its own, so that REACHES tell of both. */
        private static boolean hasOthers(River river) {
            return river.reachCount() > 0;
        }

        private void readReach(River river) {
            if (!river.hasRoomForReach()) {
                fail(TOO_MANY, place);
                return;
            }
            place++;
            int below = readBelow(river);
            int k = readNumber(0, K_MOST);
            int x = readNumber(0, X_MOST);
            int parts = readParts(river.roomForParts());
            closeClause();
            if (isSound()) {
                river.addReach(below, k, x, parts);
            }
        }

        private int readBelow(River river) {
            skipBlanks();
            if (letterHere() == '-') {
                place++;
                return NONE;
            }
            return readNumber(0, river.reachCount() - 1);
        }

        private int readParts(int room) {
            skipBlanks();
            int first = place;
            int parts = readNumber(PARTS_LEAST, PARTS_MOST);
            if (parts > room) {
                fail(TOO_MANY, first);
            }
            return parts;
        }

        private void readSides(River river) {
            place++;
            int r = readNumber(0, river.reachCount() - 1);
            for (int t = 0; t <= TIMES_MOST && isSound(); t++) {
                skipBlanks();
                if (t > 0 && !isFigure(letterHere())) {
                    break;
                }
                if (!river.hasTime(t)) {
                    fail(TOO_MANY, place);
                    break;
                }
                river.setSide(r, t, readNumber(0, FLOW_MOST));
            }
            closeClause();
        }

        private int readNumber(int least, int most) {
            if (!isSound()) {
                return NONE;
            }
            skipBlanks();
            int first = place;
            if (!isFigure(letterHere())) {
                fail(MISPLACED, place);
                return NONE;
            }
            int value = 0;
            for (int figures = 0; figures < FIGURES_MOST && isFigure(letterHere()); figures++) {
                value = 10 * value + letterHere() - '0';
                place++;
            }
            if (isFigure(letterHere())) {
                fail(OUT_OF_BOUNDS, place);
            } else if (outOf(value, least, most)) {
                fail(OUT_OF_BOUNDS, first);
            }
            return value;
        }

        private void closeClause() {
            if (!isSound()) {
                return;
            }
            skipBlanks();
            if (letterHere() == ';') {
                place++;
            } else {
                fail(MISPLACED, place);
            }
        }

        private void skipBlanks() {
            while (place >= 0 && place < length && place < letters.length && letters[place] == BLANK) {
                place++;
            }
        }

        private int letterHere() {
            return place >= 0 && place < length && place < letters.length ? letters[place] : NONE;
        }

        private static boolean isFigure(int letter) {
            return letter >= '0' && letter <= '9';
        }

        private boolean isSound() {
            return faultNumber == 0;
        }

        /** The first FAULT stays: what is read behind it tells nothing. */
        private void fail(int number, int at) {
            if (faultNumber == 0) {
                faultNumber = number;
                faultPlace = at;
            }
        }
    }

    private static final class Book {
        private final Cells entries = new Cells(ENTRIES_MOST, ENTRY_FEATURES);
        private int count = 0;

        Book() {
        }

        boolean isFull() {
            return count >= ENTRIES_MOST;
        }

        void add(int r, int t, long out) {
            if (!isFull()) {
                entries.put(count, ENTRY_REACH, r);
                entries.put(count, ENTRY_TIME, t);
                entries.put(count, ENTRY_OUT, out);
                count++;
            }
        }

        int entryCount() {
            return count;
        }

        void clear() {
            count = 0;
        }

        int firstWrong(River river, Routing routing) {
            for (int i = 0; i < count; i++) {
                int r = (int) entries.at(i, ENTRY_REACH);
                int t = (int) entries.at(i, ENTRY_TIME);
                boolean there = river.hasReach(r) && river.hasTime(t);
                if (!there || routing.outAt(r, t) != entries.at(i, ENTRY_OUT)) {
                    return i;
                }
            }
            return NONE;
        }
    }

    /** Rivers as they were ahead of the latest deeds, in a ring. */
    private static final class Past {
        private final River[] rivers = new River[DEEDS_MOST];
        private int next = 0;
        private int count = 0;

        Past() {
            for (int i = 0; i < rivers.length; i++) {
                rivers[i] = new River();
            }
        }

        int deedCount() {
            return count;
        }

        void remember(River river) {
            River kept = riverAt(next);
            if (kept == null) {
                return;
            }
            kept.copyFrom(river);
            next = (next + 1) % DEEDS_MOST;
            count = Math.min(DEEDS_MOST, count + 1);
        }

        void restore(int deeds, River river) {
            if (deeds > count) {
                return;
            }
            int back = Math.floorMod(next - deeds, DEEDS_MOST);
            River kept = riverAt(back);
            if (kept == null) {
                return;
            }
            river.copyFrom(kept);
            next = back;
            count -= deeds;
        }

        void forget() {
            count = 0;
        }

        private River riverAt(int i) {
            return outOf(i, 0, rivers.length - 1) ? null : rivers[i];
        }
    }

    private static final class Draws {
        private int value = 0;

        Draws() {
        }

        int value() {
            return value;
        }

        void setValue(int v) {
            value = v;
        }

        int next(int n) {
            value = (int) ((value * 1103515245L + 12345L) & 0x7fffffffL);
            return n > 0 ? value / 65536 % n : 0;
        }
    }

    private static final class Image {
        private final River river = new River();
        private int seedThen = 0;
        private boolean kept = false;

        Image() {
        }

        boolean isKept() {
            return kept;
        }

        void fill(River from, Draws draws) {
            river.copyFrom(from);
            seedThen = draws.value();
            kept = true;
        }

        void bringBack(River to, Draws draws) {
            to.copyFrom(river);
            draws.setValue(seedThen);
        }
    }
}
