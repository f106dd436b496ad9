/** Promises 17, 18 and 19: disturbs, turn, many. */
public final class NetworksTest {
    private static final int U = MainsLetters.UNKNOWN, O = MainsLetters.OUTSIDE;
    private static final int[] WRONG = {-2, 6, Integer.MIN_VALUE, Integer.MAX_VALUE};
    private static final Due due = new Due();

    public static void main(String[] args) {
        oneNetwork();
        allDisturb();
        apart();
        chainThatGreedFails();
        oneWayIsEnough();
        keysWithout0();
        ring();
        manyOfAll();
        due.end();
    }

    /** Stations 0 .. 5 get keys 0 .. 5 and hear those alone that are told as twos. */
    private static MainsLetters only(int... twos) {
        MainsLetters x = new MainsLetters();
        for (int a = 0; a < 6; a++) {
            x.key(a, a);
            for (int b = a + 1; b < 6; b++) {
                if (!isIn(a, b, twos)) Due.lose(x, a, b, 60);
            }
        }
        return x;
    }

    private static boolean isIn(int a, int b, int[] twos) {
        for (int two : twos) {
            if (two / 10 == a && two % 10 == b || two / 10 == b && two % 10 == a) return true;
        }
        return false;
    }

    private static void turnsAre(String name, MainsLetters x, int turns, int... byKeys) {
        due.is(name + ": turn(-1)", x.turn(-1), turns);
        for (int key = 0; key < 6; key++) due.is(name + ": turn(" + key + ")", x.turn(key), byKeys[key]);
        for (int w : WRONG) {
            due.is(name + ": turn(" + w + ")", x.turn(w), U);
            due.is(name + ": disturbs(" + w + ")", x.disturbs(w), U);
        }
        due.is(name + ": disturbs(-1)", x.disturbs(-1), U);
    }

    private static void disturbsAre(String name, MainsLetters x, int... sets) {
        for (int key = 0; key < 6; key++) due.is(name + ": disturbs(" + key + ")", x.disturbs(key), sets[key]);
    }

    private static void oneNetwork() {
        MainsLetters x = new MainsLetters();
        turnsAre("one", x, 1, 0, U, U, U, U, U);
        disturbsAre("one", x, 0, U, U, U, U, U);
        for (int s = 0; s < 6; s++) x.key(s, 5);
        turnsAre("one of key 5", x, 1, U, U, U, U, U, 0);
        disturbsAre("one of key 5", x, U, U, U, U, U, 0);
        due.is("many(9)", x.many(9), 1);
        x.key(3, 2);
        turnsAre("two", x, 2, U, U, 0, U, U, 1);
        disturbsAre("two", x, U, U, 32, U, U, 4);
        due.is("many(9)", x.many(9), 2);
    }

    private static void allDisturb() {
        MainsLetters x = new MainsLetters();
        for (int s = 0; s < 6; s++) x.key(s, 5 - s);
        turnsAre("all", x, 6, 0, 1, 2, 3, 4, 5);
        disturbsAre("all", x, 62, 61, 59, 55, 47, 31);
        due.is("many(9)", x.many(9), 6);
    }

    private static void apart() {
        MainsLetters x = only();
        turnsAre("apart", x, 1, 0, 0, 0, 0, 0, 0);
        disturbsAre("apart", x, 0, 0, 0, 0, 0, 0);
        due.is("many(10)", x.many(10), 6);
        due.is("many(8)", x.many(8), 0);
    }

    private static void chainThatGreedFails() {
        // by keys with the least number each, the way 0 - 2 - 3 - 1 would take a third number for 3
        MainsLetters x = only(2, 23, 31);
        turnsAre("chain", x, 2, 0, 1, 1, 0, 0, 0);
        disturbsAre("chain", x, 4, 8, 9, 6, 0, 0);
        // 0 and 1 are apart; the least number for both stays, where it costs no number
        x = only(2, 12, 23);
        turnsAre("star", x, 2, 0, 0, 1, 0, 0, 0);
    }

    private static void oneWayIsEnough() {
        MainsLetters x = only(2, 24);
        Due.disturb(x, 2, 0, 60);
        Due.disturb(x, 2, 1, 60);
        due.is("2 hears none", x.who(2, 0), 0);
        disturbsAre("one way", x, 4, 0, 17, 0, 4, 0);
        turnsAre("one way", x, 2, 0, 0, 1, 0, 0, 0);
        Due.disturb(x, 4, 0, 60);
        disturbsAre("one way, in half 1", x, 4, 0, 17, 0, 4, 0);
        Due.disturb(x, 4, 1, 60);
        disturbsAre("one way less", x, 4, 0, 1, 0, 0, 0);
        x.key(4, 0);
        disturbsAre("a key less", x, 4, 0, 1, 0, U, 0);
        x.key(2, 0);
        disturbsAre("two keys less", x, 0, 0, U, 0, U, 0);
    }

    private static void keysWithout0() {
        MainsLetters x = new MainsLetters();
        for (int s = 0; s < 6; s++) x.key(s, 1 + s % 5);
        turnsAre("keys 1 to 5", x, 5, U, 0, 1, 2, 3, 4);
        x.key(1, 0);
        turnsAre("keys 0, 1, 3, 4, 5", x, 5, 0, 1, U, 2, 3, 4);
    }

    private static void ring() {
        MainsLetters x = only(1, 12, 23, 34, 40);
        turnsAre("ring of five", x, 3, 0, 1, 0, 1, 2, 0);
        x = only(1, 12, 23, 34, 45, 50);
        turnsAre("ring of six", x, 2, 0, 1, 0, 1, 0, 1);
        x = only(3, 34, 41, 15, 52, 20);
        turnsAre("another ring of six", x, 2, 0, 1, 1, 1, 0, 0);
    }

    private static void manyOfAll() {
        MainsLetters x = new MainsLetters();
        x.seed(Due.seedThatDraws(8, 0, 8, 7, 8, 7));
        x.write(0, 1, 0, 200);
        x.write(2, 3, 0, 200);
        x.write(4, 5, 0, 200);
        int[] wants = {3, 3, 0, 0, 0, 0, 0, 3, 0, 1, 0};
        for (int what = 0; what < wants.length; what++) due.is("written: many(" + what + ")", x.many(what), wants[what]);
        x.pass(1);
        int[] later = {3, 2, 1, 1, 0, 0, 0, 3, 0, 1, 0};
        for (int what = 0; what < later.length; what++) due.is("passed: many(" + what + ")", x.many(what), later[what]);
        x.unwrite(2);
        x.pass(4);
        int[] last = {1, 1, 0, 5, 1, 0, 0, 3, 0, 1, 0};
        for (int what = 0; what < last.length; what++) due.is("arrived: many(" + what + ")", x.many(what), last[what]);
        for (int w : new int[] {-1, 11, Integer.MIN_VALUE, Integer.MAX_VALUE}) due.is("many(" + w + ")", x.many(w), O);
        Due.disturb(x, 1, 0, 60);
        Due.disturb(x, 1, 1, 60);
        due.is("all are heard", x.many(10), 0);
        for (int s = 0; s < 6; s++) {
            if (s != 1) Due.lose(x, 1, s, 60);
        }
        due.is("1 is not heard", x.many(10), 1);
        x.margin(12);
        due.is("many(7)", x.many(7), 12);
    }
}
