/** Promises 1 to 8: a new object, loss, noise, margin, key, bits, speed, who. */
public final class WireTest {
    private static final int U = MainsLetters.UNKNOWN, O = MainsLetters.OUTSIDE;
    private static final int[] WRONG = {-1, Integer.MIN_VALUE, Integer.MAX_VALUE};
    private static final Due due = new Due();

    public static void main(String[] args) {
        newObject();
        losses();
        noises();
        margins();
        keys();
        bitsByLevel();
        bitsRefused();
        speeds();
        whoHears();
        hiddenOnes();
        due.end();
    }

    private static void newObject() {
        due.is("UNKNOWN", MainsLetters.UNKNOWN, -1);
        due.is("OUTSIDE", MainsLetters.OUTSIDE, -2);
        due.is("STATE", MainsLetters.STATE, -3);
        due.is("NONE", MainsLetters.NONE, -9);
        MainsLetters x = new MainsLetters();
        for (int s = 0; s < 6; s++) {
            for (int what = 0; what <= 12; what++) {
                boolean isNone = what >= 2 && what <= 9;
                due.is("new: ofStation(" + s + ", " + what + ")", x.ofStation(s, what), isNone ? -9 : 0);
            }
            due.is("new: who(" + s + ", 2)", x.who(s, 2), 63 - (1 << s));
        }
        int[] many = {0, 0, 0, 0, 0, 0, 0, 3, 0, 1, 0};
        for (int what = 0; what <= 10; what++) due.is("new: many(" + what + ")", x.many(what), many[what]);
        due.is("new: seed(1)", x.seed(1), 1);
        for (int a = 0; a < 6; a++) {
            for (int tone = 0; tone < 8; tone++) {
                for (int b = a + 1; b < 6; b++) due.is("new: loss", x.loss(a, b, tone, 30), 30);
                for (int half = 0; half < 2; half++) due.is("new: noise", x.noise(a, tone, half, 10), 10);
            }
        }
        MainsLetters y = new MainsLetters();
        x.margin(7);
        x.key(1, 4);
        due.is("another object: margin(3)", y.margin(3), 3);
        due.is("another object: key(1, 0)", y.key(1, 0), 0);
    }

    private static void losses() {
        MainsLetters x = new MainsLetters();
        due.is("loss(2, 4, 7, 60)", x.loss(2, 4, 7, 60), 30);
        due.is("loss(4, 2, 7, 0): the same both ways", x.loss(4, 2, 7, 0), 60);
        due.is("loss(2, 4, 7, 1)", x.loss(2, 4, 7, 1), 0);
        due.is("loss(2, 4, 6, 30): another tone", x.loss(2, 4, 6, 30), 30);
        due.is("loss(2, 3, 7, 30): another two", x.loss(2, 3, 7, 30), 30);
        due.is("loss(0, 5, 0, 11)", x.loss(0, 5, 0, 11), 30);
        due.is("loss(5, 0, 0, 12)", x.loss(5, 0, 0, 12), 11);
        for (int w : WRONG) {
            due.is("loss, a is " + w, x.loss(w, 0, 0, 5), U);
            due.is("loss, b is " + w, x.loss(0, w, 0, 5), U);
            due.is("loss, tone is " + w, x.loss(0, 1, w, 5), U);
            due.is("loss, v is " + w, x.loss(2, 4, 7, w), O);
        }
        due.is("loss(6, 0, 0, 5)", x.loss(6, 0, 0, 5), U);
        due.is("loss(0, 6, 0, 5)", x.loss(0, 6, 0, 5), U);
        due.is("loss(0, 1, 8, 5)", x.loss(0, 1, 8, 5), U);
        due.is("loss(3, 3, 0, 5): they are one", x.loss(3, 3, 0, 5), U);
        due.is("loss(3, 3, 0, 61): UNKNOWN goes first", x.loss(3, 3, 0, 61), U);
        due.is("loss(0, 1, 8, 61): UNKNOWN goes first", x.loss(0, 1, 8, 61), U);
        due.is("loss(2, 4, 7, 61)", x.loss(2, 4, 7, 61), O);
        due.is("loss(2, 4, 7, 1): refusals change nothing", x.loss(2, 4, 7, 1), 1);
    }

    private static void noises() {
        MainsLetters x = new MainsLetters();
        due.is("noise(5, 7, 1, 60)", x.noise(5, 7, 1, 60), 10);
        due.is("noise(5, 7, 1, 0)", x.noise(5, 7, 1, 0), 60);
        due.is("noise(5, 7, 0, 9): the other half", x.noise(5, 7, 0, 9), 10);
        due.is("noise(5, 6, 1, 9): another tone", x.noise(5, 6, 1, 9), 10);
        due.is("noise(4, 7, 1, 9): another station", x.noise(4, 7, 1, 9), 10);
        for (int w : WRONG) {
            due.is("noise, s is " + w, x.noise(w, 0, 0, 5), U);
            due.is("noise, tone is " + w, x.noise(0, w, 0, 5), U);
            due.is("noise, half is " + w, x.noise(0, 0, w, 5), U);
            due.is("noise, v is " + w, x.noise(5, 7, 1, w), O);
        }
        due.is("noise(6, 0, 0, 5)", x.noise(6, 0, 0, 5), U);
        due.is("noise(0, 8, 0, 5)", x.noise(0, 8, 0, 5), U);
        due.is("noise(0, 0, 2, 61): UNKNOWN goes first", x.noise(0, 0, 2, 61), U);
        due.is("noise(5, 7, 1, 61)", x.noise(5, 7, 1, 61), O);
        due.is("noise(5, 7, 1, 0): refusals change nothing", x.noise(5, 7, 1, 0), 0);
    }

    private static void margins() {
        MainsLetters x = new MainsLetters();
        due.is("margin(12)", x.margin(12), 3);
        due.is("margin(0)", x.margin(0), 12);
        for (int w : WRONG) due.is("margin(" + w + ")", x.margin(w), O);
        due.is("margin(13)", x.margin(13), O);
        due.is("many(7)", x.many(7), 0);
        due.is("bits: 20 less 0", x.bits(0, 1, 0, 0), 6);
        x.margin(1);
        due.is("bits: 20 less 1", x.bits(0, 1, 0, 0), 4);
        x.margin(12);
        due.is("bits: 20 less 12", x.bits(0, 1, 0, 0), 2);
        due.is("speed: 20 less 12", x.speed(4, 5, 1), 16);
    }

    private static void keys() {
        MainsLetters x = new MainsLetters();
        due.is("key(0, 5)", x.key(0, 5), 0);
        due.is("key(0, 2)", x.key(0, 2), 5);
        due.is("ofStation(0, 0)", x.ofStation(0, 0), 2);
        due.is("ofStation(1, 0)", x.ofStation(1, 0), 0);
        for (int w : WRONG) {
            due.is("key(" + w + ", 0)", x.key(w, 0), U);
            due.is("key(0, " + w + ")", x.key(0, w), O);
            due.is("key(" + w + ", " + w + ")", x.key(w, w), U);
        }
        due.is("key(6, 0)", x.key(6, 0), U);
        due.is("key(0, 6)", x.key(0, 6), O);
        due.is("key(0, 2)", x.key(0, 2), 2);
    }

    private static void bitsByLevel() {
        MainsLetters x = new MainsLetters();
        x.margin(0);
        x.noise(1, 2, 0, 0);
        int[] least = {4, 7, 11, 14, 20, 26, 32};
        int[] bits = {1, 2, 3, 4, 6, 8, 10};
        for (int level = 0; level <= 60; level++) {
            int want = 0;
            for (int i = 0; i < least.length; i++) if (level >= least[i]) want = bits[i];
            x.loss(0, 1, 2, 60 - level);
            due.is("bits at " + level, x.bits(0, 1, 2, 0), want);
        }
        x.loss(0, 1, 2, 60);
        x.noise(1, 2, 0, 60);
        x.margin(12);
        due.is("bits far below 0", x.bits(0, 1, 2, 0), 0);
        x.loss(0, 1, 2, 0);
        x.noise(0, 2, 0, 7);
        x.noise(1, 2, 0, 36);
        x.noise(1, 2, 1, 37);
        due.is("bits by the noise of b in half 0", x.bits(0, 1, 2, 0), 3);
        due.is("bits by the noise of b in half 1", x.bits(0, 1, 2, 1), 3);
        x.noise(1, 2, 1, 38);
        due.is("bits by the noise of b in half 1", x.bits(0, 1, 2, 1), 2);
        due.is("bits the other way", x.bits(1, 0, 2, 0), 10);
    }

    private static void bitsRefused() {
        MainsLetters x = new MainsLetters();
        for (int w : WRONG) {
            due.is("bits, a is " + w, x.bits(w, 0, 0, 0), U);
            due.is("bits, b is " + w, x.bits(0, w, 0, 0), U);
            due.is("bits, tone is " + w, x.bits(0, 1, w, 0), U);
            due.is("bits, half is " + w, x.bits(0, 1, 0, w), U);
            due.is("speed, a is " + w, x.speed(w, 0, 0), U);
            due.is("speed, b is " + w, x.speed(0, w, 0), U);
            due.is("speed, half is " + w, x.speed(0, 1, w), U);
        }
        due.is("bits(6, 0, 0, 0)", x.bits(6, 0, 0, 0), U);
        due.is("bits(0, 6, 0, 0)", x.bits(0, 6, 0, 0), U);
        due.is("bits(5, 5, 0, 0)", x.bits(5, 5, 0, 0), U);
        due.is("bits(0, 1, 8, 0)", x.bits(0, 1, 8, 0), U);
        due.is("bits(0, 1, 0, 2)", x.bits(0, 1, 0, 2), U);
        due.is("bits(5, 4, 7, 1)", x.bits(5, 4, 7, 1), 4);
        due.is("speed(6, 0, 0)", x.speed(6, 0, 0), U);
        due.is("speed(0, 6, 0)", x.speed(0, 6, 0), U);
        due.is("speed(2, 2, 0)", x.speed(2, 2, 0), U);
        due.is("speed(0, 1, 2)", x.speed(0, 1, 2), U);
    }

    private static void speeds() {
        MainsLetters x = new MainsLetters();
        due.is("speed at first", x.speed(0, 1, 0), 32);
        x.loss(0, 1, 0, 0);
        due.is("speed, one tone of 10 bits", x.speed(0, 1, 0), 38);
        due.is("speed, the other way", x.speed(1, 0, 1), 38);
        due.is("speed of another two", x.speed(0, 2, 0), 32);
        x.noise(1, 7, 1, 60);
        due.is("speed, noise in half 1", x.speed(0, 1, 1), 34);
        due.is("speed, half 0 stays", x.speed(0, 1, 0), 38);
        due.is("speed, the other way stays", x.speed(1, 0, 1), 38);
        due.is("speed from another one", x.speed(5, 1, 1), 28);
        Due.lose(x, 0, 1, 0);
        due.is("speed of 8 tones of 10", x.speed(1, 0, 0), 80);
        x.margin(12);
        due.is("speed with a margin of 12", x.speed(1, 0, 0), 80);
        due.is("speed with a margin of 12, by 20", x.speed(3, 0, 0), 16);
    }

    private static void whoHears() {
        MainsLetters x = new MainsLetters();
        Due.disturb(x, 2, 0, 60);
        due.is("2 hears in half 1 alone", x.who(2, 0), 63 - 4);
        Due.disturb(x, 2, 1, 60);
        due.is("2 hears none", x.who(2, 0), 0);
        due.is("all hear 2", x.who(2, 1), 63 - 4);
        due.is("those that hear 0", x.who(0, 1), 63 - 1 - 4);
        due.is("those that 0 hears", x.who(0, 0), 63 - 1);
        due.is("0 reaches all but 2", x.who(0, 2), 63 - 1 - 4);
        due.is("2 reaches all", x.who(2, 2), 63 - 4);
        x.noise(2, 3, 1, 53 - 30);
        due.is("a level of 7 less 3 is heard", x.who(2, 0), 63 - 4);
        x.noise(2, 3, 1, 54 - 30);
        due.is("a level of 6 less 3 is not", x.who(2, 0), 0);
        x.key(3, 1);
        x.key(5, 1);
        due.is("0 reaches those of its key", x.who(0, 2), 2 + 16);
        due.is("3 reaches those of its key", x.who(3, 2), 32);
        due.is("keys change nothing in hearing", x.who(0, 0), 63 - 1);
        for (int w : WRONG) {
            due.is("who(" + w + ", 0)", x.who(w, 0), U);
            due.is("who(0, " + w + ")", x.who(0, w), O);
            due.is("who(" + w + ", " + w + ")", x.who(w, w), U);
        }
        due.is("who(6, 0)", x.who(6, 0), U);
        due.is("who(0, 4)", x.who(0, 4), O);
    }

    private static void hiddenOnes() {
        MainsLetters x = new MainsLetters();
        Due.lose(x, 0, 1, 60);
        due.is("0 and 1 are hidden", x.who(0, 3), 2);
        due.is("1 and 0 are hidden", x.who(1, 3), 1);
        due.is("others are not", x.who(2, 3), 0);
        due.is("many(8)", x.many(8), 1);
        x.key(2, 3);
        due.is("hidden by hearing, not by keys", x.who(0, 3), 2);
        for (int s = 2; s < 6; s++) {
            Due.lose(x, 0, s, 60);
        }
        due.is("none hears both 0 and another one", x.who(0, 3), 0);
        due.is("many(8), 0 is alone", x.many(8), 0);
        due.is("many(10)", x.many(10), 1);

        eachAsTheThirdOne();

        MainsLetters y = new MainsLetters();
        Due.lose(y, 0, 1, 52);
        Due.disturb(y, 0, 0, 60);
        Due.disturb(y, 0, 1, 60);
        Due.disturb(y, 1, 0, 60);
        due.is("neither hears the other one", y.who(0, 3), 2);
        y.noise(1, 4, 1, 1);
        due.is("one hears: not hidden", y.who(0, 3), 0);
        due.is("one hears: nor the other way", y.who(1, 3), 0);
    }

    /** One station alone hears the others, which hear none. */
    private static void eachAsTheThirdOne() {
        for (int ear = 0; ear < 6; ear++) {
            MainsLetters x = new MainsLetters();
            for (int s = 0; s < 6; s++) {
                if (s == ear) continue;
                Due.disturb(x, s, 0, 60);
                Due.disturb(x, s, 1, 60);
            }
            for (int s = 0; s < 6; s++) {
                int others = 63 - (1 << ear) - (1 << s);
                due.is(ear + " hears all: who(" + s + ", 3)", x.who(s, 3), s == ear ? 0 : others);
            }
            due.is(ear + " hears all: many(8)", x.many(8), 10);
            due.is(ear + " hears all: many(10)", x.many(10), 1);
            due.is(ear + " hears all: disturbs(0)", x.disturbs(0), 0);
            x.key(ear, 1);
            due.is(ear + " hears all: disturbs(1)", x.disturbs(1), 1);
        }
    }
}
