/** Letters on the mains; what each call must answer stands in the document's promises 1 to 19. */
public final class MainsLetters {
    public static final int UNKNOWN = -1, OUTSIDE = -2, STATE = -3, NONE = -9;

    private static final int STATIONS = 6, TONES = 8, HALVES = 2, KEYS = 6, CLASSES = 4;
    private static final int MOST_LOSS = 60, MOST_NOISE = 60, MOST_MARGIN = 12;
    private static final int MOST_BYTES = 2000, MOST_LETTER = 400, MOST_SLOTS = 1000;
    private static final int MOST_PARTS = 30, MOST_WINDOW = 8, MOST_LOST = 9, MOST_FRAMES = 200;
    private static final int SYMBOLS_OF_HALF = 10, SYMBOLS_OF_SLOT = 10;

    private final Wire wire;
    private final Ways ways;
    private final Contention contention;
    private final Flow parts;
    private final Networks networks;

    public MainsLetters() {
        wire = new Wire();
        ways = new Ways(wire);
        contention = new Contention(wire);
        parts = new Flow();
        networks = new Networks(wire);
    }

    // ---- 1 the wire

    public int loss(int a, int b, int tone, int v) {
        if (!areTwo(a, b) || !isTone(tone)) return UNKNOWN;
        if (!isWithin(v, 0, MOST_LOSS)) return OUTSIDE;
        return wire.setLoss(a, b, tone, v);
    }

    public int noise(int s, int tone, int half, int v) {
        if (!isStation(s) || !isTone(tone) || !isHalf(half)) return UNKNOWN;
        if (!isWithin(v, 0, MOST_NOISE)) return OUTSIDE;
        return wire.setNoise(s, tone, half, v);
    }

    public int margin(int v) {
        if (!isWithin(v, 0, MOST_MARGIN)) return OUTSIDE;
        return wire.setMargin(v);
    }

    public int key(int s, int v) {
        if (!isStation(s)) return UNKNOWN;
        if (!isKey(v)) return OUTSIDE;
        return wire.setKey(s, v);
    }

    public int bits(int a, int b, int tone, int half) {
        if (!areTwo(a, b) || !isTone(tone) || !isHalf(half)) return UNKNOWN;
        return wire.bitsFrom(a, b, tone, half);
    }

    public int speed(int a, int b, int half) {
        if (!areTwo(a, b) || !isHalf(half)) return UNKNOWN;
        return wire.speedFrom(a, b, half);
    }

    public int who(int s, int what) {
        if (!isStation(s)) return UNKNOWN;
        switch (what) {
            case 0: return wire.heardBy(s);
            case 1: return wire.hearersOf(s);
            case 2: return wire.reachedBy(s);
            case 3: return wire.hiddenFrom(s);
            default: return OUTSIDE;
        }
    }

    // ---- 2 how long it lasts

    public int lasts(int a, int b, int n) {
        if (!isStation(a) || !isStation(b)) return UNKNOWN;
        if (!isWithin(n, 1, MOST_BYTES)) return OUTSIDE;
        if (!wire.reaches(a, b)) return NONE;
        return wire.symbolsFor(a, b, n);
    }

    public int way(int a, int b, int n, int k) {
        if (!areTwo(a, b)) return UNKNOWN;
        if (!isWithin(n, 1, MOST_BYTES) || !isWithin(k, -2, STATIONS - 1)) return OUTSIDE;
        if (!ways.findBest(a, b, n)) return NONE;
        if (k == -2) return ways.symbolsOfBest();
        if (k == -1) return ways.stationsOfBest();
        return ways.stationOfBest(k);
    }

    // ---- 3 contention

    public int seed(int v) {
        return contention.setSeed(v);
    }

    public int write(int a, int b, int ofClass, int bytes) {
        if (!areTwo(a, b)) return UNKNOWN;
        if (!isWithin(ofClass, 0, CLASSES - 1) || !isWithin(bytes, 1, MOST_LETTER)) return OUTSIDE;
        if (contention.hasLetter(a) || !wire.reaches(a, b)) return STATE;
        return contention.giveLetter(a, b, ofClass, bytes);
    }

    public int unwrite(int s) {
        if (!isStation(s)) return UNKNOWN;
        if (!contention.isWaiting(s)) return STATE;
        return contention.takeBack(s);
    }

    public int pass(int n) {
        if (!isWithin(n, 1, MOST_SLOTS)) return OUTSIDE;
        return contention.passSlots(n);
    }

    public int ofStation(int s, int what) {
        if (!isStation(s)) return UNKNOWN;
        if (!isWithin(what, 0, 12)) return OUTSIDE;
        if (what == 0) return wire.keyOf(s);
        return contention.tellOf(s, what);
    }

    // ---- 4 flows

    public int flow(int n, int window, int bad, int deaf, int seed, int what) {
        if (!isWithin(n, 1, MOST_PARTS) || !isWithin(window, 1, MOST_WINDOW)) return OUTSIDE;
        if (!isWithin(bad, 0, MOST_LOST) || !isWithin(deaf, 0, MOST_LOST)) return OUTSIDE;
        if (!isWithin(what, 0, 5)) return OUTSIDE;
        parts.run(n, window, bad, deaf, seed);
        return parts.tell(what);
    }

    // ---- 5 networks

    public int disturbs(int key) {
        if (!isKey(key) || !networks.isThere(key)) return UNKNOWN;
        return networks.disturbedBy(key);
    }

    public int turn(int key) {
        if (key != -1 && (!isKey(key) || !networks.isThere(key))) return UNKNOWN;
        int turns = networks.giveTurns();
        return key == -1 ? turns : networks.turnOf(key);
    }

    public int many(int what) {
        switch (what) {
            case 7: return wire.marginNow();
            case 8: return wire.hiddenTwos();
            case 9: return networks.howMany();
            case 10: return wire.unheard();
            default: return contention.tellOfAll(what);
        }
    }

    private static boolean isWithin(int v, int least, int most) {
        return v >= least && v <= most;
    }

    private static boolean isStation(int s) {
        return isWithin(s, 0, STATIONS - 1);
    }

    private static boolean areTwo(int a, int b) {
        return isStation(a) && isStation(b) && a != b;
    }

    private static boolean isTone(int tone) {
        return isWithin(tone, 0, TONES - 1);
    }

    private static boolean isHalf(int half) {
        return isWithin(half, 0, HALVES - 1);
    }

    private static boolean isKey(int key) {
        return isWithin(key, 0, KEYS - 1);
    }

    /** Sets of small numbers, as bits of an int. */
    private static final class Sets {
        private Sets() {
        }

        static boolean has(int set, int i) {
            return (set >> i & 1) == 1;
        }

        static int of(int i) {
            return 1 << i;
        }
    }

    /** The numbers that are drawn, by a seed that the caller keeps. */
    private static final class Draws {
        private Draws() {
        }

        static int seedBehind(int seed) {
            return 1103515245 * seed + 12345;
        }

        static int leftBy(int seed, int divisor) {
            return divisor > 0 ? (seed >>> 16) % divisor : 0;
        }
    }

    /** Part 1, and how long bytes last from one station to the next. */
    private static final class Wire {
        private final int[] losses = new int[STATIONS * STATIONS * TONES];
        private final int[] noises = new int[STATIONS * TONES * HALVES];
        private final int[] keys = new int[STATIONS];
        // Speeds and who hears whom follow each change at once: slots ask for them far more often.
        private final int[] speeds = new int[STATIONS * STATIONS * HALVES];
        private final int[] heard = new int[STATIONS];
        private int spare = 3;

        Wire() {
            for (int i = 0; i < losses.length; i++) losses[i] = 30;
            for (int i = 0; i < noises.length; i++) noises[i] = 10;
            tuneAll();
        }

        int setLoss(int a, int b, int tone, int v) {
            int at = lossAt(a, b, tone);
            int was = losses[at];
            losses[at] = v;
            tune(a, b);
            tune(b, a);
            return was;
        }

        int setNoise(int s, int tone, int half, int v) {
            int at = noiseAt(s, tone, half);
            int was = noises[at];
            noises[at] = v;
            tuneTo(s);
            return was;
        }

        int setMargin(int v) {
            int was = spare;
            spare = v;
            tuneAll();
            return was;
        }

        int setKey(int s, int v) {
            int was = keys[s];
            keys[s] = v;
            return was;
        }

        int keyOf(int s) {
            return keys[s];
        }

        int marginNow() {
            return spare;
        }

        private void tuneAll() {
            for (int b = 0; b < STATIONS; b++) tuneTo(b);
        }

        private void tuneTo(int b) {
            for (int a = 0; a < STATIONS; a++) {
                if (a != b) tune(a, b);
            }
        }

        private void tune(int a, int b) {
            boolean carries = false;
            for (int half = 0; half < HALVES; half++) {
                int sum = 0;
                for (int tone = 0; tone < TONES; tone++) sum += bitsFrom(a, b, tone, half);
                speeds[speedAt(a, b, half)] = sum;
                carries |= sum > 0;
            }
            heard[b] = carries ? heard[b] | Sets.of(a) : heard[b] & ~Sets.of(a);
        }

        // One place for both orders of the two, so that a loss is the same both ways.
        private static int lossAt(int a, int b, int tone) {
            int two = a < b ? a * STATIONS + b : b * STATIONS + a;
            return two * TONES + tone;
        }

        private static int noiseAt(int s, int tone, int half) {
            return (s * TONES + tone) * HALVES + half;
        }

        private static int speedAt(int a, int b, int half) {
            return (a * STATIONS + b) * HALVES + half;
        }

        int bitsFrom(int a, int b, int tone, int half) {
            int level = 60 - losses[lossAt(a, b, tone)] - noises[noiseAt(b, tone, half)];
            return bitsAt(level - spare);
        }

        private static int bitsAt(int level) {
            if (level < 4) return 0;
            if (level < 7) return 1;
            if (level < 11) return 2;
            if (level < 14) return 3;
            if (level < 20) return 4;
            if (level < 26) return 6;
            if (level < 32) return 8;
            return 10;
        }

        int speedFrom(int a, int b, int half) {
            return speeds[speedAt(a, b, half)];
        }

        /** The set of those that s hears. */
        int heardBy(int s) {
            return heard[s];
        }

        boolean hears(int b, int a) {
            return Sets.has(heard[b], a);
        }

        int hearersOf(int s) {
            int set = 0;
            for (int b = 0; b < STATIONS; b++) {
                if (hears(b, s)) set |= Sets.of(b);
            }
            return set;
        }

        boolean reaches(int a, int b) {
            return a != b && keys[a] == keys[b] && hears(b, a);
        }

        int reachedBy(int s) {
            int set = 0;
            for (int b = 0; b < STATIONS; b++) {
                if (reaches(s, b)) set |= Sets.of(b);
            }
            return set;
        }

        int hiddenFrom(int s) {
            int set = 0;
            for (int t = 0; t < STATIONS; t++) {
                if (areHidden(s, t)) set |= Sets.of(t);
            }
            return set;
        }

        private boolean areHidden(int s, int t) {
            return s != t && !hears(s, t) && !hears(t, s) && someHearsBoth(s, t);
        }

        // None hears itself, so the one that hears both is a third one.
        private boolean someHearsBoth(int s, int t) {
            for (int u = 0; u < STATIONS; u++) {
                if (hears(u, s) && hears(u, t)) return true;
            }
            return false;
        }

        int hiddenTwos() {
            int ends = 0;
            for (int s = 0; s < STATIONS; s++) ends += Integer.bitCount(hiddenFrom(s));
            return ends / 2;
        }

        int unheard() {
            int some = 0;
            for (int s = 0; s < STATIONS; s++) some |= heard[s];
            return STATIONS - Integer.bitCount(some);
        }

        /** Counted by whole rounds of both halves first: on a slow wire there are thousands of symbols. */
        int symbolsFor(int a, int b, int n) {
            int first = speeds[speedAt(a, b, 0)];
            int second = speeds[speedAt(a, b, 1)];
            int round = SYMBOLS_OF_HALF * (first + second);
            if (round <= 0) return NONE;
            int rounds = (8 * n - 1) / round;
            int left = 8 * n - rounds * round;
            int symbols = rounds * 2 * SYMBOLS_OF_HALF;
            int inFirst = SYMBOLS_OF_HALF * first;
            if (left <= inFirst) return symbols + quotientUp(left, first);
            return symbols + SYMBOLS_OF_HALF + quotientUp(left - inFirst, second);
        }

        private static int quotientUp(int v, int divisor) {
            return divisor > 0 ? (v + divisor - 1) / divisor : 0;
        }
    }

    /** The best way of part 2. */
    private static final class Ways {
        // Costs and distances are symbols times STEP and steps, so that of equal symbols the fewest
        // steps are the nearest; a way has five steps at most.
        private static final int STEP = 8, FAR = 100000000;

        private final Wire wire;
        private final int[] costs = new int[STATIONS * STATIONS];
        private final int[] distances = new int[STATIONS];
        private final int[] best = new int[STATIONS];
        private int bestStations;
        private int bestSymbols;

        Ways(Wire itsWire) {
            wire = itsWire;
        }

        boolean findBest(int a, int b, int n) {
            weighSteps(n);
            measureTo(b);
            if (distances[a] >= FAR) return false;
            bestSymbols = distances[a] / STEP;
            follow(a, b);
            return true;
        }

        int symbolsOfBest() {
            return bestSymbols;
        }

        int stationsOfBest() {
            return bestStations;
        }

        int stationOfBest(int k) {
            return k >= 0 && k < bestStations ? best[k] : NONE;
        }

        private void weighSteps(int n) {
            for (int a = 0; a < STATIONS; a++) {
                for (int b = 0; b < STATIONS; b++) {
                    boolean may = wire.reaches(a, b);
                    costs[a * STATIONS + b] = may ? wire.symbolsFor(a, b, n) * STEP + 1 : FAR;
                }
            }
        }

        private void measureTo(int b) {
            for (int s = 0; s < STATIONS; s++) distances[s] = s == b ? 0 : FAR;
            for (int round = 1; round < STATIONS; round++) {
                for (int s = 0; s < STATIONS; s++) shorten(s);
            }
        }

        private void shorten(int s) {
            for (int next = 0; next < STATIONS; next++) {
                distances[s] = Math.min(distances[s], through(s, next));
            }
        }

        private int through(int s, int next) {
            return costs[s * STATIONS + next] + distances[next];
        }

        // Every step costs something, so a nearest way has no station twice; and the lowest next
        // one that is on some nearest way makes the row the first of them.
        private void follow(int a, int b) {
            int s = a;
            for (int i = 0; i < STATIONS; i++) {
                best[i] = s;
                bestStations = i + 1;
                if (s == b) return;
                s = nextOf(s);
            }
        }

        private int nextOf(int s) {
            for (int next = 0; next < STATIONS; next++) {
                if (through(s, next) == distances[s]) return next;
            }
            return s;
        }
    }

    /** What part 3 keeps of one station. */
    private static final class Station {
        private int phase;
        private int to;
        private int rank;
        private int bytes;
        private int stage;
        private int count;
        private int defer;
        private int slotsToGo;
        private boolean spoilt;
        private int arrived;
        private int collided;
        private int came;
    }

    /** Part 3: letters that wait for the wire and are sent on it, slot by slot. */
    private static final class Contention {
        private static final int EMPTY = 0, WAITING = 1, SENDING = 2;
        private static final int LAST_STAGE = 3, FIRST_NARROW_CLASS = 2;
        private static final int[] WIDTHS = {8, 16, 32, 64};
        private static final int[] NARROW_WIDTHS = {8, 16, 16, 32};
        private static final int[] DEFERS = {0, 1, 3, 15};

        private final Wire wire;
        private final Station[] stations = new Station[STATIONS];
        private int seedNow = 1;
        private int slots;
        private int arrived;
        private int dropped;
        private int collided;

        Contention(Wire itsWire) {
            wire = itsWire;
            for (int i = 0; i < STATIONS; i++) stations[i] = new Station();
        }

        int setSeed(int v) {
            int was = seedNow;
            seedNow = v;
            return was;
        }

        boolean hasLetter(int s) {
            return stations[s].phase != EMPTY;
        }

        boolean isWaiting(int s) {
            return stations[s].phase == WAITING;
        }

        int giveLetter(int a, int b, int ofClass, int bytes) {
            Station s = stations[a];
            s.to = b;
            s.rank = ofClass;
            s.bytes = bytes;
            waitAt(s, 0);
            return s.count;
        }

        int takeBack(int a) {
            stations[a].phase = EMPTY;
            return stations[a].bytes;
        }

        int passSlots(int n) {
            int before = arrived;
            slots += n;
            for (int i = 0; i < n && withLetters() != 0; i++) passSlot();
            return arrived - before;
        }

        private int withLetters() {
            return inPhase(WAITING) | inPhase(SENDING);
        }

        private void passSlot() {
            int waiting = inPhase(WAITING);
            int sending = inPhase(SENDING);
            int ready = countDown(waiting, sending);
            int started = start(ready);
            spoil(sending | started);
            goOn(sending | started);
            giveWay(waiting & ~ready, started);
        }

        private int inPhase(int phase) {
            int set = 0;
            for (int i = 0; i < STATIONS; i++) {
                if (stations[i].phase == phase) set |= Sets.of(i);
            }
            return set;
        }

        /** Step 1; answers those whose count is over. */
        private int countDown(int waiting, int sending) {
            int ready = 0;
            for (int i = 0; i < STATIONS; i++) {
                if (!Sets.has(waiting, i) || isHeld(i, waiting, sending)) continue;
                if (stations[i].count == 0) ready |= Sets.of(i);
                else stations[i].count--;
            }
            return ready;
        }

        private boolean isHeld(int i, int waiting, int sending) {
            int heard = wire.heardBy(i);
            if ((heard & sending) != 0) return true;
            for (int j = 0; j < STATIONS; j++) {
                if (Sets.has(heard & waiting, j) && stations[j].rank > stations[i].rank) return true;
            }
            return false;
        }

        /** Step 2; answers those that start. */
        private int start(int ready) {
            int started = 0;
            for (int i = 0; i < STATIONS; i++) {
                if (!Sets.has(ready, i)) continue;
                if (wire.reaches(i, stations[i].to)) {
                    send(i);
                    started |= Sets.of(i);
                } else {
                    stations[i].phase = EMPTY;
                    dropped++;
                }
            }
            return started;
        }

        private void send(int i) {
            Station s = stations[i];
            s.phase = SENDING;
            s.spoilt = false;
            s.slotsToGo = (wire.symbolsFor(i, s.to, s.bytes) + SYMBOLS_OF_SLOT - 1) / SYMBOLS_OF_SLOT;
        }

        /** Step 3. */
        private void spoil(int sending) {
            for (int i = 0; i < STATIONS; i++) {
                if (!Sets.has(sending, i)) continue;
                int to = stations[i].to;
                int others = wire.heardBy(to) & sending & ~Sets.of(i);
                if (Sets.has(sending, to) || others != 0) stations[i].spoilt = true;
            }
        }

        /** Step 4. */
        private void goOn(int sending) {
            for (int i = 0; i < STATIONS; i++) {
                if (!Sets.has(sending, i)) continue;
                Station s = stations[i];
                s.slotsToGo--;
                if (s.slotsToGo > 0) continue;
                if (s.spoilt) collide(s);
                else arrive(s);
            }
        }

        private void arrive(Station s) {
            s.phase = EMPTY;
            s.arrived++;
            stations[s.to].came++;
            arrived++;
        }

        private void collide(Station s) {
            s.collided++;
            collided++;
            waitAt(s, s.stage + 1);
        }

        /** Step 5; the patient are those that waited and whose count was not over. */
        private void giveWay(int patient, int started) {
            for (int i = 0; i < STATIONS; i++) {
                if (Sets.has(patient, i) && (wire.heardBy(i) & started) != 0) deferAt(stations[i]);
            }
        }

        private void deferAt(Station s) {
            if (s.defer == 0) {
                waitAt(s, s.stage + 1);
                return;
            }
            s.defer--;
            if (s.count > 0) s.count--;
        }

        private void waitAt(Station s, int stage) {
            s.phase = WAITING;
            s.stage = Math.min(stage, LAST_STAGE);
            seedNow = Draws.seedBehind(seedNow);
            s.count = Draws.leftBy(seedNow, widthOf(s));
            s.defer = DEFERS[s.stage];
        }

        private static int widthOf(Station s) {
            return s.rank >= FIRST_NARROW_CLASS ? NARROW_WIDTHS[s.stage] : WIDTHS[s.stage];
        }

        int tellOf(int i, int what) {
            Station s = stations[i];
            switch (what) {
                case 1: return s.phase;
                case 2: return s.phase == EMPTY ? NONE : s.to;
                case 3: return s.phase == EMPTY ? NONE : s.rank;
                case 4: return s.phase == EMPTY ? NONE : s.bytes;
                case 5: return s.phase == WAITING ? s.stage : NONE;
                case 6: return s.phase == WAITING ? s.count : NONE;
                case 7: return s.phase == WAITING ? s.defer : NONE;
                case 8: return s.phase == SENDING ? s.slotsToGo : NONE;
                case 9: return s.phase != SENDING ? NONE : s.spoilt ? 1 : 0;
                case 10: return s.arrived;
                case 11: return s.collided;
                case 12: return s.came;
                default: return OUTSIDE;
            }
        }

        int tellOfAll(int what) {
            switch (what) {
                case 0: return Integer.bitCount(withLetters());
                case 1: return Integer.bitCount(inPhase(WAITING));
                case 2: return Integer.bitCount(inPhase(SENDING));
                case 3: return slots;
                case 4: return arrived;
                case 5: return dropped;
                case 6: return collided;
                default: return OUTSIDE;
            }
        }
    }

    /** Part 4; its parts are sets, as there are 30 at most. */
    private static final class Flow {
        private int seedNow;
        private int all;
        private int taken;
        private int answered;
        private int frames;
        private int partsSent;
        private int doubles;
        private int ahead;

        void run(int n, int window, int bad, int deaf, int seed) {
            seedNow = seed;
            all = Sets.of(n) - 1;
            taken = 0;
            answered = 0;
            frames = 0;
            partsSent = 0;
            doubles = 0;
            ahead = 0;
            while (frames < MOST_FRAMES && answered != all) {
                frames++;
                sendFrame(firstOpen(window), bad, deaf);
            }
        }

        private int firstOpen(int window) {
            int frame = 0;
            int room = window;
            for (int i = 0; i < MOST_PARTS && room > 0; i++) {
                if (!Sets.has(all & ~answered, i)) continue;
                frame |= Sets.of(i);
                room--;
            }
            return frame;
        }

        private void sendFrame(int frame, int bad, int deaf) {
            for (int i = 0; i < MOST_PARTS; i++) {
                if (!Sets.has(frame, i)) continue;
                partsSent++;
                if (drawTenth() >= bad) take(i);
            }
            if (drawTenth() >= deaf) answered |= frame & taken;
            ahead = Math.max(ahead, takenBeyondGap());
        }

        private int drawTenth() {
            seedNow = Draws.seedBehind(seedNow);
            return Draws.leftBy(seedNow, 10);
        }

        private void take(int i) {
            if (Sets.has(taken, i)) doubles++;
            taken |= Sets.of(i);
        }

        private int takenBeyondGap() {
            int gap = 0;
            while (gap < MOST_PARTS && Sets.has(taken, gap)) gap++;
            return Integer.bitCount(taken >> gap);
        }

        int tell(int what) {
            switch (what) {
                case 0: return frames;
                case 1: return partsSent;
                case 2: return doubles;
                case 3: return ahead;
                case 4: return Integer.bitCount(taken);
                case 5: return Integer.bitCount(answered);
                default: return OUTSIDE;
            }
        }
    }

    /** Part 5. */
    private static final class Networks {
        private final Wire wire;
        private final int[] disturbed = new int[KEYS];
        private final int[] turns = new int[KEYS];

        Networks(Wire itsWire) {
            wire = itsWire;
        }

        private int keysThere() {
            int set = 0;
            for (int s = 0; s < STATIONS; s++) set |= Sets.of(wire.keyOf(s));
            return set;
        }

        boolean isThere(int key) {
            return Sets.has(keysThere(), key);
        }

        int howMany() {
            return Integer.bitCount(keysThere());
        }

        int disturbedBy(int key) {
            meet();
            return disturbed[key];
        }

        private void meet() {
            for (int key = 0; key < KEYS; key++) disturbed[key] = 0;
            for (int b = 0; b < STATIONS; b++) {
                for (int a = 0; a < STATIONS; a++) {
                    if (wire.hears(b, a)) part(wire.keyOf(a), wire.keyOf(b));
                }
            }
        }

        private void part(int one, int other) {
            if (one == other) return;
            disturbed[one] |= Sets.of(other);
            disturbed[other] |= Sets.of(one);
        }

        /** Answers how many turns there are. */
        int giveTurns() {
            meet();
            for (int numbers = 1; numbers < KEYS; numbers++) {
                if (number(disturbed, turns, 0, numbers)) return numbers;
            }
            number(disturbed, turns, 0, KEYS);
            return KEYS;
        }

        int turnOf(int key) {
            return turns[key];
        }

        // Lowest numbers are tried first, by keys, so the first row that fits is the first of all.
        // A key that no station has disturbs none and takes 0: it changes nothing for the others.
        private static boolean number(int[] disturbed, int[] turns, int key, int numbers) {
            if (key >= KEYS) return true;
            for (int turn = 0; turn < numbers; turn++) {
                if (!isFree(disturbed, turns, key, turn)) continue;
                turns[key] = turn;
                if (number(disturbed, turns, key + 1, numbers)) return true;
            }
            return false;
        }

        private static boolean isFree(int[] disturbed, int[] turns, int key, int turn) {
            for (int other = 0; other < key; other++) {
                if (Sets.has(disturbed[key], other) && turns[other] == turn) return false;
            }
            return true;
        }
    }
}
