import java.util.Random;

/** Long runs of calls by fixed seeds on many kinds of wire: the class and the model answer alike. */
public final class ModelTest {
    private static final int RUNS = 1500;
    private static final int[] ODD = {-1, -2, -3, 6, 7, 8, 13, 31, 61, Integer.MIN_VALUE, Integer.MAX_VALUE};
    private static final Due due = new Due();

    private final Random random;
    private final MainsLetters x = new MainsLetters();
    private final Model model = new Model();
    private final String name;
    private int calls = 0;

    private ModelTest(int run) {
        random = new Random(run);
        name = "run " + run + ", call ";
    }

    public static void main(String[] args) {
        for (int run = 0; run < RUNS; run++) new ModelTest(run).go(run);
        due.end();
    }

    private void go(int run) {
        if (run % 8 != 0) layWire(new int[] {0, 20, 40, 55, 70, 85, 95}[run % 7]);
        if (run % 3 == 0) for (int s = 0; s < 6; s++) callKey(s, random.nextInt(1 + run % 6));
        while (calls < 440) {
            if (run % 2 == 0) anyCall();
            else letterCall();
        }
        for (int what = 0; what <= 10; what++) alike("many(" + what + ")", x.many(what), model.many(what));
        for (int s = 0; s < 6; s++) {
            for (int what = 10; what <= 12; what++) alike("ofStation(" + s + ", " + what + ")", x.ofStation(s, what), model.ofStation(s, what));
        }
    }

    private void alike(String call, int got, int want) {
        calls++;
        due.is(name + calls + ": " + call, got, want);
    }

    /** So many of a hundred twos are far from one another; the others have losses of all kinds. */
    private void layWire(int far) {
        for (int a = 0; a < 6; a++) {
            for (int b = a + 1; b < 6; b++) {
                boolean isFar = random.nextInt(100) < far;
                int base = random.nextInt(45);
                for (int tone = 0; tone < 8; tone++) callLoss(a, b, tone, isFar ? 60 : Math.min(60, base + random.nextInt(12)));
            }
        }
        for (int i = random.nextInt(4); i > 0; i--) {
            int s = random.nextInt(6);
            int half = random.nextInt(2);
            for (int tone = 0; tone < 8; tone++) callNoise(s, tone, half, random.nextInt(4) > 0 ? 60 : random.nextInt(61));
        }
    }

    private int pick(int least, int most) {
        if (random.nextInt(40) == 0) return ODD[random.nextInt(ODD.length)];
        if (random.nextInt(40) == 0) return random.nextBoolean() ? least - 1 : most + 1;
        return least + random.nextInt(most - least + 1);
    }

    private int station() {
        return pick(0, 5);
    }

    private void callLoss(int a, int b, int tone, int v) {
        alike("loss(" + a + ", " + b + ", " + tone + ", " + v + ")", x.loss(a, b, tone, v), model.loss(a, b, tone, v));
    }

    private void callNoise(int s, int tone, int half, int v) {
        alike("noise(" + s + ", " + tone + ", " + half + ", " + v + ")", x.noise(s, tone, half, v), model.noise(s, tone, half, v));
    }

    private void callKey(int s, int v) {
        alike("key(" + s + ", " + v + ")", x.key(s, v), model.key(s, v));
    }

    private void callMargin(int v) {
        alike("margin(" + v + ")", x.margin(v), model.margin(v));
    }

    private void callSeed(int v) {
        alike("seed(" + v + ")", x.seed(v), model.seed(v));
    }

    private void callWrite(int a, int b, int ofClass, int bytes) {
        alike("write(" + a + ", " + b + ", " + ofClass + ", " + bytes + ")", x.write(a, b, ofClass, bytes), model.write(a, b, ofClass, bytes));
    }

    private void callUnwrite(int s) {
        alike("unwrite(" + s + ")", x.unwrite(s), model.unwrite(s));
    }

    private void callPass(int n) {
        alike("pass(" + n + ")", x.pass(n), model.pass(n));
    }

    private void callOfStation(int s, int what) {
        alike("ofStation(" + s + ", " + what + ")", x.ofStation(s, what), model.ofStation(s, what));
    }

    private void callMany(int what) {
        alike("many(" + what + ")", x.many(what), model.many(what));
    }

    /** Letters, slots and what is told of them, with a change of the wire now and then. */
    private void letterCall() {
        int kind = random.nextInt(30);
        if (kind < 10) callWrite(station(), station(), pick(0, 3), random.nextInt(3) == 0 ? pick(1, 400) : pick(1, 60));
        else if (kind < 15) callPass(1);
        else if (kind < 17) callPass(pick(1, 12));
        else if (kind == 17) callUnwrite(station());
        else if (kind == 18) callSeed(random.nextInt());
        else if (kind == 19) callKey(station(), pick(0, 1));
        else if (kind == 20) for (int tone = 0, a = station(), b = station(), v = pick(0, 60); tone < 8; tone++) callLoss(a, b, tone, v);
        else if (kind == 21) callMargin(pick(0, 12));
        else if (kind == 22) callMany(pick(0, 10));
        else callOfStation(station(), pick(1, 12));
    }

    private void anyCall() {
        int a = station(), b = station();
        switch (random.nextInt(22)) {
            case 0: callLoss(a, b, pick(0, 7), pick(0, 60)); break;
            case 1: callNoise(a, pick(0, 7), pick(0, 1), pick(0, 60)); break;
            case 2: callMargin(pick(0, 12)); break;
            case 3: callKey(a, pick(0, 5)); break;
            case 4: askBitsAndSpeed(a, b, pick(0, 7), pick(0, 1)); break;
            case 5: case 6: askWho(a, pick(0, 3)); break;
            case 7: case 8: askLasts(a, b, pick(1, 2000)); break;
            case 9: case 10: case 11: askWay(a, b, random.nextBoolean() ? pick(1, 60) : pick(1, 2000)); break;
            case 12: callSeed(random.nextInt()); break;
            case 13: case 14: callWrite(a, b, pick(0, 3), pick(1, 400)); break;
            case 15: callPass(random.nextInt(30) == 0 ? pick(1, 1000) : pick(1, 20)); break;
            case 16: callUnwrite(a); break;
            case 17: callOfStation(a, pick(0, 12)); break;
            case 18: askFlow(); break;
            case 19: askNetworks(pick(-1, 5)); break;
            case 20: callMany(pick(0, 10)); break;
            default: callPass(1); break;
        }
    }

    private void askBitsAndSpeed(int a, int b, int tone, int half) {
        alike("bits(" + a + ", " + b + ", " + tone + ", " + half + ")", x.bits(a, b, tone, half), model.bits(a, b, tone, half));
        alike("speed(" + a + ", " + b + ", " + half + ")", x.speed(a, b, half), model.speed(a, b, half));
    }

    private void askWho(int s, int what) {
        alike("who(" + s + ", " + what + ")", x.who(s, what), model.who(s, what));
    }

    private void askLasts(int a, int b, int n) {
        alike("lasts(" + a + ", " + b + ", " + n + ")", x.lasts(a, b, n), model.lasts(a, b, n));
    }

    private void askWay(int a, int b, int n) {
        for (int k = -2; k < 6; k++) {
            int at = random.nextInt(20) == 0 ? pick(-2, 5) : k;
            alike("way(" + a + ", " + b + ", " + n + ", " + at + ")", x.way(a, b, n, at), model.way(a, b, n, at));
        }
    }

    private void askFlow() {
        int n = pick(1, 30), window = pick(1, 8), bad = pick(0, 9), deaf = pick(0, 9), seed = random.nextInt();
        for (int what = 0; what < 6; what++) {
            String call = "flow(" + n + ", " + window + ", " + bad + ", " + deaf + ", " + seed + ", " + what + ")";
            alike(call, x.flow(n, window, bad, deaf, seed, what), model.flow(n, window, bad, deaf, seed, what));
        }
    }

    private void askNetworks(int key) {
        alike("disturbs(" + key + ")", x.disturbs(key), model.disturbs(key));
        alike("turn(" + key + ")", x.turn(key), model.turn(key));
        alike("turn(-1)", x.turn(-1), model.turn(-1));
    }
}
