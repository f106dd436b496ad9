/** Part 1 at its edges; each test bears the document's words that it is of. */
public final class WireEdgesTest {
    private static final int U = MainsLetters.UNKNOWN, O = MainsLetters.OUTSIDE;
    private static final int ALL = 63;
    private static final Due due = new Due();

    public static void main(String[] args) {
        lossFrom0To60();
        lossIsTheSameBothWays();
        noiseFrom0To60();
        eachNoiseIsItsOwn();
        marginFrom0To12();
        keyFrom0To5();
        stepsByLoss();
        stepsByNoise();
        stepsByMargin();
        levelIsByNoiseOfTheOtherOne();
        speedFrom0To80();
        oneBitIsHeard();
        heardInOneHalfAlone();
        reachesByKeyAndHearing();
        oneDoesNotReachItself();
        hiddenNeedsAThirdOne();
        anyTwoByAnyThirdOne();
        hiddenIsOfBoth();
        changesAreHeardAtOnce();
        due.end();
    }

    /** "LOSS of two STATIONS at a TONE (0 .. 60; 30 at first ..)" */
    private static void lossFrom0To60() {
        MainsLetters x = new MainsLetters();
        due.is("loss at first", x.loss(0, 5, 7, 60), 30);
        due.is("60 is let be", x.loss(0, 5, 7, 61), O);
        due.is("61 is not, and 60 stays", x.loss(0, 5, 7, 0), 60);
        due.is("0 is let be", x.loss(0, 5, 7, -1), O);
        due.is("-1 is not, and 0 stays", x.loss(0, 5, 7, 1), 0);
        due.is("the first TONE", x.loss(0, 5, 0, 59), 30);
        due.is("no TONE -1", x.loss(0, 5, -1, 1), U);
        due.is("no TONE 8", x.loss(0, 5, 8, 1), U);
    }

    /** "the same both ways": each two at each TONE has a LOSS of its own, whoever is named first. */
    private static void lossIsTheSameBothWays() {
        MainsLetters x = new MainsLetters();
        for (int turn = 0; turn < 2; turn++) {
            int v = 0;
            for (int a = 0; a < 6; a++) {
                for (int b = a + 1; b < 6; b++) {
                    for (int tone = 0; tone < 8; tone++) {
                        v = (v + 7) % 61;
                        if (turn == 0) due.is("loss at first", x.loss(a, b, tone, v), 30);
                        else due.is("loss(" + b + ", " + a + ", " + tone + ", ..)", x.loss(b, a, tone, 0), v);
                    }
                }
            }
        }
    }

    /** "NOISE of a STATION at a TONE in a HALF (0 .. 60; 10 at first)" */
    private static void noiseFrom0To60() {
        MainsLetters x = new MainsLetters();
        due.is("noise at first", x.noise(5, 7, 1, 60), 10);
        due.is("60 is let be", x.noise(5, 7, 1, 61), O);
        due.is("61 is not, and 60 stays", x.noise(5, 7, 1, 0), 60);
        due.is("0 is let be", x.noise(5, 7, 1, -1), O);
        due.is("-1 is not, and 0 stays", x.noise(5, 7, 1, 1), 0);
        due.is("the first of all", x.noise(0, 0, 0, 59), 10);
        due.is("no TONE -1", x.noise(0, -1, 0, 1), U);
        due.is("no TONE 8", x.noise(0, 8, 0, 1), U);
        due.is("no HALF -1", x.noise(0, 0, -1, 1), U);
        due.is("no HALF 2", x.noise(0, 0, 2, 1), U);
    }

    private static void eachNoiseIsItsOwn() {
        MainsLetters x = new MainsLetters();
        for (int turn = 0; turn < 2; turn++) {
            int v = 0;
            for (int s = 0; s < 6; s++) {
                for (int tone = 0; tone < 8; tone++) {
                    for (int half = 0; half < 2; half++) {
                        v = (v + 7) % 61;
                        if (turn == 0) due.is("noise at first", x.noise(s, tone, half, v), 10);
                        else due.is("noise(" + s + ", " + tone + ", " + half + ", ..)", x.noise(s, tone, half, 0), v);
                    }
                }
            }
        }
    }

    /** "MARGIN: 0 .. 12 (3 at first)" */
    private static void marginFrom0To12() {
        MainsLetters x = new MainsLetters();
        due.is("margin at first", x.margin(12), 3);
        due.is("12 is let be", x.margin(13), O);
        due.is("13 is not, and 12 stays", x.many(7), 12);
        due.is("speed by 20 less 12", x.speed(0, 1, 0), 16);
        due.is("12 was there", x.margin(0), 12);
        due.is("0 is let be", x.margin(-1), O);
        due.is("-1 is not, and 0 stays", x.many(7), 0);
        due.is("speed by 20 less 0", x.speed(0, 1, 0), 48);
    }

    /** "Each STATION has a KEY (0 .. 5; 0 at first)" */
    private static void keyFrom0To5() {
        MainsLetters x = new MainsLetters();
        for (int s = 0; s < 6; s++) {
            due.is("key at first", x.key(s, 5), 0);
            due.is("5 is let be", x.key(s, 6), O);
            due.is("6 is not, and 5 stays", x.key(s, 0), 5);
            due.is("0 is let be", x.key(s, -1), O);
            due.is("-1 is not, and 0 stays", x.ofStation(s, 0), 0);
        }
    }

    /** "below 4: 0; 4 to 6: 1; 7 to 10: 2; 11 to 13: 3; 14 to 19: 4; 20 to 25: 6; 26 to 31: 8; 32 and more: 10" */
    private static final int[][] STEPS = {
        {0, 0}, {3, 0}, {4, 1}, {6, 1}, {7, 2}, {10, 2}, {11, 3}, {13, 3}, {14, 4}, {19, 4}, {20, 6}, {25, 6}, {26, 8}, {31, 8},
        {32, 10}, {60, 10}};

    private static void stepsByLoss() {
        MainsLetters x = new MainsLetters();
        x.margin(0);
        x.noise(4, 7, 1, 0);
        for (int[] step : STEPS) {
            x.loss(1, 4, 7, 60 - step[0]);
            due.is("by LOSS, " + step[0], x.bits(1, 4, 7, 1), step[1]);
        }
        x.noise(4, 7, 1, 1);
        due.is("by LOSS, -1", lastBits(x, 60), 0);
        x.noise(4, 7, 1, 60);
        x.margin(12);
        due.is("by LOSS, -72", lastBits(x, 60), 0);
    }

    private static int lastBits(MainsLetters x, int loss) {
        x.loss(1, 4, 7, loss);
        return x.bits(1, 4, 7, 1);
    }

    private static void stepsByNoise() {
        MainsLetters x = new MainsLetters();
        x.margin(0);
        x.loss(1, 4, 0, 0);
        for (int[] step : STEPS) {
            x.noise(4, 0, 0, 60 - step[0]);
            due.is("by NOISE, " + step[0], x.bits(1, 4, 0, 0), step[1]);
        }
    }

    /** Each step between two MARGINS that are neighbours, at all MARGINS. */
    private static void stepsByMargin() {
        MainsLetters x = new MainsLetters();
        x.noise(0, 3, 1, 0);
        for (int i = 2; i < STEPS.length - 1; i += 2) {
            for (int margin = 0; margin < 12; margin++) {
                x.loss(0, 5, 3, 60 - STEPS[i][0] - margin);
                x.margin(margin);
                due.is("by MARGIN " + margin + ", " + STEPS[i][0], x.bits(5, 0, 3, 1), STEPS[i][1]);
                x.margin(margin + 1);
                due.is("by MARGIN " + (margin + 1) + ", " + STEPS[i - 1][0], x.bits(5, 0, 3, 1), STEPS[i - 1][1]);
            }
        }
    }

    /** "60, less LOSS of both, less NOISE of b": of b alone, at its TONE and in its HALF alone. */
    private static void levelIsByNoiseOfTheOtherOne() {
        MainsLetters x = new MainsLetters();
        x.noise(2, 4, 1, 60);
        for (int tone = 0; tone < 8; tone++) {
            for (int half = 0; half < 2; half++) {
                due.is("to 2 at " + tone + " in " + half, x.bits(3, 2, tone, half), tone == 4 && half == 1 ? 0 : 4);
                due.is("from 2 at " + tone + " in " + half, x.bits(2, 3, tone, half), 4);
            }
        }
    }

    /** "SPEED from a to b in a HALF: BITS of all TONES together" */
    private static void speedFrom0To80() {
        MainsLetters x = new MainsLetters();
        Due.lose(x, 0, 1, 60);
        due.is("no BITS at any TONE", x.speed(0, 1, 0), 0);
        for (int tone = 0; tone < 8; tone++) {
            x.loss(0, 1, tone, 0);
            due.is("TONES 0 to " + tone + " have 10", x.speed(0, 1, 0), 10 * tone + 10);
            due.is("TONES 0 to " + tone + " have 10, in HALF 1", x.speed(1, 0, 1), 10 * tone + 10);
        }
    }

    /** "b HEARS a, if SPEED from a to b is above 0": one BIT at one TONE, of each TONE and HALF. */
    private static void oneBitIsHeard() {
        for (int tone = 0; tone < 8; tone++) {
            for (int half = 0; half < 2; half++) {
                MainsLetters x = new MainsLetters();
                x.margin(0);
                Due.disturb(x, 3, 0, 60);
                Due.disturb(x, 3, 1, 60);
                x.noise(3, tone, half, 27);
                due.is("SPEED 0, at 3", x.speed(0, 3, half), 0);
                due.is("not heard at 3", x.who(3, 0), 0);
                due.is("no one is heard by 3", x.who(0, 1) >> 3 & 1, 0);
                x.noise(3, tone, half, 26);
                due.is("SPEED 1, at 4", x.speed(0, 3, half), 1);
                due.is("SPEED 0 in the other HALF", x.speed(0, 3, 1 - half), 0);
                due.is("heard at 4", x.who(3, 0), ALL - 8);
                due.is("0 is heard by 3", x.who(0, 1) >> 3 & 1, 1);
                x.margin(1);
                due.is("not heard, as MARGIN is 1", x.who(3, 0), 0);
            }
        }
    }

    /** "in HALF 0 or in HALF 1 (or both)" */
    private static void heardInOneHalfAlone() {
        for (int set = 0; set < 4; set++) {
            MainsLetters x = new MainsLetters();
            for (int half = 0; half < 2; half++) Due.disturb(x, 5, half, (set >> half & 1) == 1 ? 10 : 60);
            due.is("heard in HALVES " + set, x.who(5, 0), set == 0 ? 0 : ALL - 32);
            due.is("those that hear 0, HALVES " + set, x.who(0, 1), set == 0 ? ALL - 33 : ALL - 1);
            due.is("those that 0 reaches, HALVES " + set, x.who(0, 2), set == 0 ? ALL - 33 : ALL - 1);
        }
    }

    /** "a REACHES b, if they .. have the same KEY, and b HEARS a": not if a alone HEARS b. */
    private static void reachesByKeyAndHearing() {
        MainsLetters x = new MainsLetters();
        x.key(0, 5);
        due.is("0 reaches none, alone with its KEY", x.who(0, 2), 0);
        due.is("none reaches 0", x.who(1, 2), ALL - 3);
        x.key(3, 5);
        due.is("0 reaches 3", x.who(0, 2), 8);
        due.is("3 reaches 0", x.who(3, 2), 1);
        Due.disturb(x, 3, 0, 60);
        Due.disturb(x, 3, 1, 60);
        due.is("3 does not hear 0 any more", x.who(0, 2), 0);
        due.is("0 hears 3 yet", x.who(3, 2), 1);
        x.key(3, 0);
        due.is("3 has KEY 0 again", x.who(3, 2), ALL - 9);
    }

    /** "if they are not one": nor does any of the four sets hold the STATION itself. */
    private static void oneDoesNotReachItself() {
        MainsLetters x = new MainsLetters();
        for (int s = 0; s < 6; s++) {
            for (int what = 0; what < 3; what++) due.is("who(" + s + ", " + what + ")", x.who(s, what), ALL - (1 << s));
            due.is("who(" + s + ", 3)", x.who(s, 3), 0);
            due.is("who(" + s + ", 4)", x.who(s, 4), O);
            due.is("who(" + s + ", -1)", x.who(s, -1), O);
        }
        for (int a = 0; a < 6; a++) {
            for (int b = a + 1; b < 6; b++) Due.lose(x, a, b, 60);
        }
        for (int s = 0; s < 6; s++) {
            for (int what = 0; what < 4; what++) due.is("apart: who(" + s + ", " + what + ")", x.who(s, what), 0);
        }
        due.is("apart: STATIONS that no other one HEARS", x.many(10), 6);
        due.is("apart: twos that are HIDDEN", x.many(8), 0);
    }

    /** Stations 0, 1 and a third one alone on the wire: deaf ones hear none, all others hear all that is not lost. */
    private static MainsLetters three(int third, int... deaf) {
        MainsLetters x = new MainsLetters();
        for (int s = 2; s < 6; s++) {
            if (s == third) continue;
            for (int t = 0; t < 6; t++) {
                if (t != s) Due.lose(x, s, t, 60);
            }
        }
        Due.lose(x, 0, 1, 60);
        for (int s : deaf) {
            Due.disturb(x, s, 0, 60);
            Due.disturb(x, s, 1, 60);
        }
        return x;
    }

    /** "and some third one HEARS both": it need not be heard, nor have their KEY; to be heard is not enough. */
    private static void hiddenNeedsAThirdOne() {
        for (int third = 2; third < 6; third++) {
            MainsLetters x = three(third, 0, 1);
            due.is(third + " hears 0 and 1", x.who(0, 3), 2);
            due.is("twos", x.many(8), 1);
            x.key(third, 4);
            due.is(third + " has another KEY", x.who(1, 3), 1);
            due.is(third + " is not hidden from 0", x.who(third, 3), 0);
            x = three(third, third);
            due.is("0 and 1 hear " + third + ", which hears none", x.who(0, 3), 0);
            due.is("twos", x.many(8), 0);
            x = three(third);
            Due.lose(x, 1, third, 60);
            due.is(third + " hears 0 alone", x.who(0, 3), 0);
            due.is("twos", x.many(8), 0);
        }
    }

    /** Each third one alone hears each two, which hear none. */
    private static void anyTwoByAnyThirdOne() {
        for (int a = 0; a < 6; a++) {
            for (int b = a + 1; b < 6; b++) {
                for (int third = 0; third < 6; third++) {
                    if (third != a && third != b) oneThirdOne(a, b, third);
                }
            }
        }
    }

    private static void oneThirdOne(int a, int b, int third) {
        MainsLetters x = new MainsLetters();
        for (int s = 0; s < 6; s++) {
            for (int t = s + 1; t < 6; t++) {
                boolean near = (s == third || t == third) && (s == a || s == b || t == a || t == b);
                if (!near) Due.lose(x, s, t, 60);
            }
        }
        Due.deafen(x, a);
        Due.deafen(x, b);
        for (int s = 0; s < 6; s++) {
            int want = s == a ? 1 << b : s == b ? 1 << a : 0;
            due.is(third + " hears " + a + " and " + b + ": who(" + s + ", 3)", x.who(s, 3), want);
        }
        due.is("twos", x.many(8), 1);
        due.is("STATIONS that no other one HEARS", x.many(10), 4);
        Due.deafen(x, third);
        due.is("twos, none hears", x.many(8), 0);
        due.is("STATIONS that no other one HEARS, none hears", x.many(10), 6);
    }

    /** "if neither HEARS the other one": one that HEARS is enough to be not HIDDEN, either way. */
    private static void hiddenIsOfBoth() {
        for (int deaf = 0; deaf < 2; deaf++) {
            MainsLetters x = three(5, deaf);
            Due.lose(x, 0, 1, 30);
            due.is(deaf + " is deaf, the other one hears it", x.who(deaf, 3), 0);
            due.is("so, too, from the other one", x.who(1 - deaf, 3), 0);
            due.is("twos", x.many(8), 0);
            Due.lose(x, 0, 1, 60);
            due.is("neither hears", x.who(deaf, 3), 2 - deaf);
            due.is("so, too, from the other one", x.who(1 - deaf, 3), 1 + deaf);
            due.is("twos", x.many(8), 1);
        }
    }

    /** "All that is told .. is by how all is when it is asked." */
    private static void changesAreHeardAtOnce() {
        MainsLetters x = new MainsLetters();
        Due.lose(x, 2, 3, 43);
        due.is("at 7 less 3", x.who(2, 2), ALL - 4);
        x.margin(4);
        due.is("at 7 less 4", x.who(2, 2), ALL - 12);
        due.is("HIDDEN", x.who(2, 3), 8);
        x.loss(3, 2, 6, 42);
        due.is("one TONE at 8 less 4", x.who(2, 2), ALL - 4);
        due.is("not HIDDEN", x.who(2, 3), 0);
        x.noise(3, 6, 0, 11);
        due.is("HALF 1 alone", x.who(2, 2), ALL - 4);
        x.noise(3, 6, 1, 11);
        due.is("3 does not hear 2", x.who(2, 2), ALL - 12);
        due.is("2 hears 3", x.who(3, 2), ALL - 8);
        x.margin(3);
        due.is("MARGIN 3 again", x.who(2, 2), ALL - 4);
    }
}
