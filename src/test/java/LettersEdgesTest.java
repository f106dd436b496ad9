import java.math.BigInteger;

/** Part 3 at its edges, but for its SLOTS: SEED, DRAWS, LETTERS. Each test bears the document's words that it is of. */
public final class LettersEdgesTest {
    private static final int U = MainsLetters.UNKNOWN, O = MainsLetters.OUTSIDE;
    private static final int S = MainsLetters.STATE, N = MainsLetters.NONE;
    private static final int[][] WIDTHS = {{8, 16, 32, 64}, {8, 16, 32, 64}, {8, 16, 16, 32}, {8, 16, 16, 32}};
    private static final int[] DEFERS = {0, 1, 3, 15};
    private static final Due due = new Due();

    public static void main(String[] args) {
        seedIs1AtFirst();
        seedWraps();
        upper16Bits();
        widthsByStageAndClass();
        defersByStage();
        stageIs3AtMost();
        aNewLetterIsAtStage0();
        classFrom0To3();
        bytesFrom1To400();
        oneLetterAtATime();
        onlyToOneThatItReaches();
        takenBack();
        whatIsToldOfAStation();
        counts();
        due.end();
    }

    /** "SEED (.. 1 at first) becomes 1103515245 times SEED and 12345" */
    private static void seedIs1AtFirst() {
        MainsLetters x = new MainsLetters();
        due.is("COUNT by SEED 1", x.write(0, 1, 0, 1), 1103527590 / 65536 % 8);
        due.is("SEED behind it", x.seed(0), 1103527590);
        due.is("COUNT by SEED 0", x.write(1, 0, 0, 1), 0);
        due.is("SEED behind 0", x.seed(-1), 12345);
        due.is("SEED is what it became", x.seed(1), -1);
    }

    /** "an int that wraps" */
    private static void seedWraps() {
        int[] seeds = {2, 3, -1, -2, 65536, 1103527590, Integer.MAX_VALUE, Integer.MAX_VALUE - 1, Integer.MIN_VALUE, Integer.MIN_VALUE + 1};
        for (int seed : seeds) {
            MainsLetters x = new MainsLetters();
            x.seed(seed);
            BigInteger next = BigInteger.valueOf(1103515245).multiply(BigInteger.valueOf(seed)).add(BigInteger.valueOf(12345));
            int upper = next.shiftRight(16).and(BigInteger.valueOf(65535)).intValue();
            due.is("COUNT by SEED " + seed, x.write(0, 1, 0, 1), upper % 8);
            due.is("SEED behind " + seed, x.seed(seed), next.intValue());
        }
    }

    /** "what is left of the upper 16 bits of SEED (0 .. 65535)": never below 0, and not by the lower 16 bits. */
    private static void upper16Bits() {
        int[][] seedsAndCounts = {
            {0, 0}, {0x0000FFFF, 0}, {0x00010000, 1}, {0x0007FFFF, 7}, {0x00080000, 0}, {0x7FFE0000, 6}, {0x7FFFFFFF, 7},
            {0x80000000, 0}, {0x80010000, 1}, {0xFFFE0000, 6}, {0xFFFF0000, 7}, {0xFFFFFFFF, 7}};
        for (int[] two : seedsAndCounts) {
            for (int ofClass = 0; ofClass < 4; ofClass++) {
                MainsLetters x = new MainsLetters();
                x.seed(Due.seedBefore(two[0]));
                due.is("COUNT by " + two[0], x.write(0, 1, ofClass, 1), two[1]);
                due.is("COUNT of 0", x.ofStation(0, 6), two[1]);
                due.is("SEED", x.seed(1), two[0]);
            }
        }
    }

    /** Two LETTERS of STATIONS that do not hear one another, COUNTS 0, that have COLLIDED so often. */
    private static MainsLetters collided(int ofClass, int times) {
        MainsLetters x = new MainsLetters();
        Due.lose(x, 1, 2, 60);
        x.seed(Due.seedThatDraws(8, 0, 8, 0));
        x.write(1, 0, ofClass, 40);
        x.write(2, 0, ofClass, 40);
        for (int i = 1; i <= times; i++) {
            int width = WIDTHS[ofClass][Math.min(i, 3)];
            x.seed(Due.seedThatDraws(width, 0, width, 0));
            x.pass(1);
        }
        return x;
    }

    /** "by WIDTH: 8, 16, 32, 64 by STAGE, of CLASSES 2, 3: 8, 16, 16, 32": the last one below WIDTH, WIDTH, and 65535. */
    private static void widthsByStageAndClass() {
        for (int ofClass = 0; ofClass < 4; ofClass++) {
            for (int stage = 1; stage <= 4; stage++) {
                int at = Math.min(stage, 3);
                int width = WIDTHS[ofClass][at];
                for (int upper : new int[] {width - 1, width, width + 1, 65535}) {
                    MainsLetters x = collided(ofClass, stage - 1);
                    x.seed(Due.seedBefore(upper << 16));
                    due.is("both collide", x.pass(1), 0);
                    String name = "CLASS " + ofClass + ", upper bits " + upper;
                    due.told(name, x, 1, 1, 0, ofClass, 40, at, upper % width, DEFERS[at], N, N, 0, stage, 0);
                    int second = Due.seedBehind(upper << 16);
                    due.told(name, x, 2, 1, 0, ofClass, 40, at, Due.drawn(second, width), DEFERS[at], N, N, 0, stage, 0);
                }
            }
        }
    }

    /** 0 starts in the next SLOT, of CLASS 3, and arrives in it; answers what SEED is to be behind its DRAW. */
    private static int startAnother(MainsLetters x) {
        int seed = Due.seedThatDraws(8, 0);
        x.seed(seed);
        due.is("COUNT of the other one", x.write(0, 1, 3, 40), 0);
        return Due.seedBehind(seed);
    }

    /** "DEFER becomes 0, 1, 3, 15 by STAGE": so many STARTS more go by without a DRAW. */
    private static void defersByStage() {
        MainsLetters x = new MainsLetters();
        x.write(5, 4, 2, 40);
        due.is("DEFER at STAGE 0", x.ofStation(5, 7), 0);
        int[] startsUntilADraw = {1, 2, 4, 16, 16};
        for (int i = 0; i < startsUntilADraw.length; i++) {
            int stage = Math.min(3, i + 1);
            for (int start = 1; start <= startsUntilADraw[i]; start++) {
                int seed = startAnother(x);
                due.is("the other one arrives", x.pass(1), 1);
                boolean draws = start == startsUntilADraw[i];
                due.is("DEFER, " + i + ", " + start, x.ofStation(5, 7), draws ? DEFERS[stage] : startsUntilADraw[i] - start - 1);
                due.is("SEED, " + i + ", " + start, x.seed(1), draws ? Due.seedBehind(seed) : seed);
            }
            due.is("STAGE, " + i, x.ofStation(5, 5), stage);
        }
    }

    /** "its STAGE 1 more (3 at most)", both times that the document says it. */
    private static void stageIs3AtMost() {
        for (int times = 0; times <= 6; times++) {
            MainsLetters x = collided(0, times);
            due.is("STAGE behind so many collisions: " + times, x.ofStation(1, 5), Math.min(3, times));
            due.is("they are counted on", x.ofStation(1, 11), times);
        }
        MainsLetters x = collided(0, 3);
        x.unwrite(2);
        for (int start = 1; start <= 16; start++) {
            startAnother(x);
            x.pass(1);
            due.is("STAGE 3 stays, start " + start, x.ofStation(1, 5), 3);
        }
        due.is("DEFER anew", x.ofStation(1, 7), 15);
    }

    /** "As a LETTER comes, STAGE is 0, with a DRAW." */
    private static void aNewLetterIsAtStage0() {
        MainsLetters x = collided(1, 2);
        due.is("STAGE 2", x.ofStation(1, 5), 2);
        x.unwrite(1);
        x.seed(Due.seedBefore(0x000F0000));
        due.is("COUNT is by WIDTH 8", x.write(1, 0, 0, 3), 7);
        due.told("taken back, then anew", x, 1, 1, 0, 0, 3, 0, 7, 0, N, N, 0, 2, 0);
        due.is("2 arrives alone", x.pass(1), 1);
        x.seed(Due.seedBefore(0x001F0000));
        due.is("COUNT is by WIDTH 8", x.write(2, 0, 3, 4), 7);
        due.told("arrived, then anew", x, 2, 1, 0, 3, 4, 0, 7, 0, N, N, 1, 2, 0);
    }

    /** "of a CLASS 0 .. 3" */
    private static void classFrom0To3() {
        for (int ofClass = -1; ofClass <= 4; ofClass++) {
            MainsLetters x = new MainsLetters();
            boolean letBe = ofClass >= 0 && ofClass <= 3;
            due.is("CLASS " + ofClass, x.write(5, 0, ofClass, 1), letBe ? 6 : O);
            due.is("CLASS of 5", x.ofStation(5, 3), letBe ? ofClass : N);
            due.is("LETTERS", x.many(0), letBe ? 1 : 0);
            due.is("SEED", x.seed(1), letBe ? 1103527590 : 1);
        }
    }

    /** "of 1 .. 400 BYTES" */
    private static void bytesFrom1To400() {
        for (int bytes : new int[] {Integer.MIN_VALUE, -1, 0, 1, 400, 401, Integer.MAX_VALUE}) {
            MainsLetters x = new MainsLetters();
            boolean letBe = bytes == 1 || bytes == 400;
            due.is("BYTES " + bytes, x.write(0, 5, 3, bytes), letBe ? 6 : O);
            due.is("BYTES of 0", x.ofStation(0, 4), letBe ? bytes : N);
            due.is("BYTES taken back", x.unwrite(0), letBe ? bytes : S);
            due.is("SEED", x.seed(1), letBe ? 1103527590 : 1);
        }
    }

    /** "STATE: it has one already": WAITING or SENDING, to whomever; another one may have one, and so may it later. */
    private static void oneLetterAtATime() {
        MainsLetters x = new MainsLetters();
        x.seed(Due.seedThatDraws(8, 1));
        due.is("the first one", x.write(0, 1, 0, 41), 1);
        for (int slot = 0; slot < 3; slot++) {
            due.is("it has one, slot " + slot, x.write(0, 1, 0, 41), S);
            due.is("it has one, to another STATION, slot " + slot, x.write(0, 2, 3, 1), S);
            due.is("arrived", x.pass(1), slot == 2 ? 1 : 0);
        }
        due.is("it has none any more", x.write(0, 2, 3, 1) >= 0 ? 1 : 0, 1);
        for (int s = 1; s < 6; s++) due.is("each has one", x.write(s, 0, 0, 1) >= 0 ? 1 : 0, 1);
        for (int s = 0; s < 6; s++) due.is("no more", x.write(s, (s + 1) % 6, 0, 1), S);
        due.is("six LETTERS at most", x.many(0), 6);
        due.is("six are WAITING", x.many(1), 6);
    }

    /** "STATE: .. it does not REACH the other one": by KEY, by hearing, by hearing the other way. */
    private static void onlyToOneThatItReaches() {
        MainsLetters x = new MainsLetters();
        x.key(0, 1);
        due.is("another KEY", x.write(0, 1, 0, 1), S);
        due.is("another KEY, back", x.write(1, 0, 0, 1), S);
        x.key(0, 0);
        Due.deafen(x, 1);
        due.is("1 does not hear 0", x.write(0, 1, 0, 1), S);
        due.is("no DRAW yet", x.seed(1), 1);
        due.is("0 hears 1", x.write(1, 0, 0, 1), 6);
        x.noise(1, 7, 1, 23);
        due.is("1 hears one bit of 0", x.write(0, 1, 0, 1) >= 0 ? 1 : 0, 1);
        MainsLetters y = new MainsLetters();
        Due.deafen(y, 1);
        y.noise(1, 7, 1, 24);
        due.is("1 hears no bit of 0", y.write(0, 1, 0, 1), S);
    }

    /** "unwrite .. STATE: it has none, it is SENDING": before, while it waits, while it is sent, and behind. */
    private static void takenBack() {
        MainsLetters x = new MainsLetters();
        due.is("it has none", x.unwrite(3), S);
        x.seed(Due.seedThatDraws(8, 0));
        x.write(3, 2, 0, 81);
        for (int left = 2; left >= 1; left--) {
            x.pass(1);
            due.is("it is SENDING", x.unwrite(3), S);
            due.is("to go", x.ofStation(3, 8), left);
        }
        due.is("it arrives all the same", x.pass(1), 1);
        due.is("it has none any more", x.unwrite(3), S);
        x = collided(0, 1);
        due.is("one that COLLIDED is WAITING", x.unwrite(1), 40);
        due.is("it is taken back once", x.unwrite(1), S);
        due.is("the other one stays", x.many(0), 1);
        due.is("and arrives", x.pass(1), 1);
        due.is("none was DROPPED", x.many(5), 0);
    }

    /** "NONE": of one without a LETTER, one that is WAITING, one that is SENDING; what 0 .. 12. */
    private static void whatIsToldOfAStation() {
        MainsLetters x = Busy.object();
        int[][] wants = {{1, 2, 0, 100, 1, 7, 0, N, N, 1, 1, 0}, {2, 2, 0, 400, N, N, N, 9, 0, 0, 1, 1}, {0, N, N, N, N, N, N, N, N, 0, 0, 0}};
        for (int s = 0; s < 3; s++) {
            due.told("busy", x, s, wants[s]);
            due.is("KEY of " + s, x.ofStation(s, 0), 0);
            due.is("what -1 of " + s, x.ofStation(s, -1), O);
            due.is("what 13 of " + s, x.ofStation(s, 13), O);
        }
        due.is("KEY of 3", x.ofStation(3, 0), 2);
        due.is("STATION -1, what 13", x.ofStation(-1, 13), U);
        due.is("STATION 6, what -1", x.ofStation(6, -1), U);
    }

    /** "10 how many LETTERS of it ARRIVED, 11 how often it COLLIDED, 12 how many came to it": each its own. */
    private static void counts() {
        MainsLetters x = new MainsLetters();
        for (int round = 1; round <= 20; round++) {
            startAnother(x);
            due.is("arrived", x.pass(1), 1);
            due.is("ARRIVED of 0", x.ofStation(0, 10), round);
            due.is("came to 1", x.ofStation(1, 12), round);
            due.is("came to 0", x.ofStation(0, 12), 0);
            due.is("ARRIVED of 1", x.ofStation(1, 10), 0);
            due.is("ARRIVED of all", x.many(4), round);
        }
        MainsLetters y = collided(3, 5);
        due.is("how often any COLLIDED", y.many(6), 10);
        due.is("none came", y.ofStation(0, 12), 0);
        due.is("0 did not collide", y.ofStation(0, 11), 0);
    }
}
