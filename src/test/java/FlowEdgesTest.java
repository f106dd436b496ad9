/** Part 4 at its edges; each test bears the document's words that it is of. */
public final class FlowEdgesTest {
    private static final int O = MainsLetters.OUTSIDE;
    private static final Due due = new Due();

    public static void main(String[] args) {
        partsFrom1To30();
        windowFrom1To8();
        badAndDeafFrom0To9();
        whatFrom0To5();
        anySeed();
        upper16Bits();
        windowOfThemAtMost();
        lessThanBad();
        lessThanDeaf();
        theAnswerIsDrawnBehindTheParts();
        doubles();
        answeredByNow();
        firstOnesNotAnswered();
        aheadOfTheFirstGap();
        aheadIsTheMost();
        endsBehind200Frames();
        nothingIsLeftOfAnEarlierFlow();
        due.end();
    }

    private static void asTold(String name, int[] v, int... wants) {
        MainsLetters x = new MainsLetters();
        for (int what = 0; what < wants.length; what++) {
            due.is(name + ", what " + what, x.flow(v[0], v[1], v[2], v[3], v[4], what), wants[what]);
        }
        due.is(name + ", SEED of LETTERS stays", x.seed(1), 1);
    }

    private static int[] numbers(int n, int window, int bad, int deaf, int seed) {
        return new int[] {n, window, bad, deaf, seed};
    }

    /** A SEED whose DRAWS leave these, by 10. */
    private static int tens(int... rests) {
        int[] both = new int[rests.length * 2];
        for (int i = 0; i < rests.length; i++) {
            both[2 * i] = 10;
            both[2 * i + 1] = rests[i];
        }
        return Due.seedThatDraws(both);
    }

    /** A SEED whose DRAWS, by 10, are less than 5 where there is an x, 5 or more where there is a dot, FRAME by FRAME. */
    private static int halves(String pattern) {
        int first = 1;
        while (!isAs(pattern, first)) first++;
        return first;
    }

    private static boolean isAs(String pattern, int first) {
        int seed = first;
        for (char sign : pattern.replace(" ", "").toCharArray()) {
            seed = Due.seedBehind(seed);
            if (Due.drawn(seed, 10) < 5 != (sign == 'x')) return false;
        }
        return true;
    }

    private static void outside(int n, int window, int bad, int deaf, int what) {
        MainsLetters x = new MainsLetters();
        String call = "flow(" + n + ", " + window + ", " + bad + ", " + deaf + ", 1, " + what + ")";
        due.is(call, x.flow(n, window, bad, deaf, 1, what), O);
        due.is(call + " leaves SEED", x.seed(1), 1);
    }

    private static final int[] FAR_OFF = {Integer.MIN_VALUE, -1, 100, Integer.MAX_VALUE};

    /** "A FLOW of n PARTS (1 .. 30)" */
    private static void partsFrom1To30() {
        asTold("one PART", numbers(1, 1, 0, 0, 1), 1, 1, 0, 0, 1, 1);
        asTold("30 PARTS", numbers(30, 1, 0, 0, 1), 30, 30, 0, 0, 30, 30);
        for (int n : new int[] {0, 31}) outside(n, 1, 0, 0, 0);
        for (int n : FAR_OFF) outside(n, 1, 0, 0, 0);
    }

    /** "WINDOW (1 .. 8)" */
    private static void windowFrom1To8() {
        asTold("WINDOW 1", numbers(8, 1, 0, 0, 1), 8, 8, 0, 0, 8, 8);
        asTold("WINDOW 8", numbers(8, 8, 0, 0, 1), 1, 8, 0, 0, 8, 8);
        for (int window : new int[] {0, 9}) outside(8, window, 0, 0, 0);
        for (int window : FAR_OFF) outside(8, window, 0, 0, 0);
    }

    /** "BAD, DEAF (0 .. 9)" */
    private static void badAndDeafFrom0To9() {
        asTold("BAD 9", numbers(1, 1, 9, 0, tens(8, 0, 9, 0)), 2, 2, 0, 0, 1, 1);
        asTold("DEAF 9", numbers(1, 1, 0, 9, tens(0, 8, 0, 9)), 2, 2, 1, 0, 1, 1);
        for (int v : new int[] {10, 11}) {
            outside(1, 1, v, 0, 0);
            outside(1, 1, 0, v, 0);
        }
        for (int v : FAR_OFF) {
            outside(1, 1, v, 0, 0);
            outside(1, 1, 0, v, 0);
        }
    }

    private static void whatFrom0To5() {
        asTold("each what", numbers(2, 2, 5, 0, tens(4, 5, 0, 5, 0)), 2, 3, 0, 1, 2, 2);
        outside(1, 1, 0, 0, 6);
        for (int what : FAR_OFF) outside(1, 1, 0, 0, what);
    }

    /** "by a SEED": any int. */
    private static void anySeed() {
        for (int seed : new int[] {0, 1, -1, -2, -3, -9, Integer.MIN_VALUE, Integer.MAX_VALUE}) {
            asTold("SEED " + seed, numbers(30, 8, 0, 0, seed), 4, 30, 0, 0, 30, 30);
        }
    }

    /** "DRAWS as above": by the upper 16 bits, never below 0. */
    private static void upper16Bits() {
        int[][] seedsAndRests = {{0x80000000, 8}, {0xFFFF0000, 5}, {0xFFFFFFFF, 5}, {0x7FFF0000, 7}, {0x0000FFFF, 0}, {0x00090000, 9}, {0x000A0000, 0}};
        for (int[] two : seedsAndRests) {
            for (int bad = 0; bad <= 9; bad++) {
                MainsLetters x = new MainsLetters();
                int frames = x.flow(1, 1, bad, 0, Due.seedBefore(two[0]), 0);
                due.is("one FRAME by " + two[0] + ", BAD " + bad, frames == 1 ? 1 : 0, two[1] >= bad ? 1 : 0);
            }
        }
    }

    /** "each FRAME takes the first PARTS .., WINDOW of them at most": fewer only if there are no more. */
    private static void windowOfThemAtMost() {
        for (int window = 1; window <= 8; window++) {
            for (int n = 1; n <= 30; n++) {
                int frames = n / window + (n % window > 0 ? 1 : 0);
                asTold(n + " by " + window, numbers(n, window, 0, 0, 3), frames, n, 0, 0, n, n);
            }
        }
    }

    /** "the PART is lost, if it is less than BAD": not if it is as much. */
    private static void lessThanBad() {
        for (int bad = 1; bad <= 9; bad++) {
            asTold("as much as BAD " + bad, numbers(1, 1, bad, 0, tens(bad, 0)), 1, 1, 0, 0, 1, 1);
            asTold("one less than BAD " + bad, numbers(1, 1, bad, 0, tens(bad - 1, 0, bad, 0)), 2, 2, 0, 0, 1, 1);
        }
        asTold("BAD 0 loses none", numbers(1, 1, 0, 0, tens(0, 0)), 1, 1, 0, 0, 1, 1);
    }

    /** "the ANSWER is lost, if it is less than DEAF" */
    private static void lessThanDeaf() {
        for (int deaf = 1; deaf <= 9; deaf++) {
            asTold("as much as DEAF " + deaf, numbers(1, 1, 0, deaf, tens(0, deaf)), 1, 1, 0, 0, 1, 1);
            asTold("one less than DEAF " + deaf, numbers(1, 1, 0, deaf, tens(0, deaf - 1, 0, deaf)), 2, 2, 1, 0, 1, 1);
        }
    }

    /** "one for each PART of the FRAME, in order ..; behind them one": the ANSWER has its DRAW even if all PARTS are lost. */
    private static void theAnswerIsDrawnBehindTheParts() {
        asTold("all lost, the ANSWER not", numbers(2, 2, 5, 5, halves("xx. ...")), 2, 4, 0, 0, 2, 2);
        asTold("all lost, and the ANSWER", numbers(2, 2, 5, 5, halves("xxx ...")), 2, 4, 0, 0, 2, 2);
        asTold("the second one is lost", numbers(2, 2, 5, 5, halves(".x. ..")), 2, 3, 0, 0, 2, 2);
        asTold("the first one is lost", numbers(2, 2, 5, 5, halves("x.. ..")), 2, 3, 0, 1, 2, 2);
    }

    /** "A PART that is not lost is TAKEN; it is a DOUBLE, if it was TAKEN before": each time that it is not lost. */
    private static void doubles() {
        asTold("three times", numbers(1, 1, 5, 5, halves(".x .x ..")), 3, 3, 2, 0, 1, 1);
        asTold("lost between", numbers(1, 1, 5, 5, halves(".x xx ..")), 3, 3, 1, 0, 1, 1);
        asTold("lost, then TAKEN", numbers(1, 1, 5, 5, halves("xx ..")), 2, 2, 0, 0, 1, 1);
    }

    /** "all PARTS of the FRAME that were TAKEN by now (by it or before)" */
    private static void answeredByNow() {
        asTold("TAKEN before, lost now", numbers(2, 2, 5, 5, halves(".xx x..")), 2, 4, 0, 0, 2, 2);
        asTold("by it and before", numbers(2, 2, 5, 5, halves("x.x .x.")), 2, 4, 0, 1, 2, 2);
        asTold("no ANSWER but to those TAKEN", numbers(2, 2, 5, 5, halves("x.. x. ..")), 3, 4, 0, 1, 2, 2);
    }

    /** "takes the first PARTS that are not ANSWERED yet": behind a gap, new ones come to the WINDOW. */
    private static void firstOnesNotAnswered() {
        asTold("0, 1, then 0, 2, then 0, 3", numbers(4, 2, 5, 5, halves("x.. x.. ...")), 3, 6, 0, 2, 4, 4);
        asTold("0, 1, then 1, 2, then 1, 2", numbers(3, 2, 5, 5, halves(".x. ..x ...")), 3, 6, 2, 0, 3, 3);
    }

    /** "how many PARTS were TAKEN .. beyond the first one that was not TAKEN by then" */
    private static void aheadOfTheFirstGap() {
        asTold("all but the last one", numbers(3, 3, 5, 5, halves("..x. ..")), 2, 4, 0, 0, 3, 3);
        asTold("all but the first one", numbers(3, 3, 5, 5, halves("x... ..")), 2, 4, 0, 2, 3, 3);
        asTold("all but the middle one", numbers(3, 3, 5, 5, halves(".x.. ..")), 2, 4, 0, 1, 3, 3);
        asTold("two gaps", numbers(4, 4, 5, 5, halves("x.x.. ...")), 2, 6, 0, 2, 4, 4);
        asTold("TAKEN without an ANSWER", numbers(2, 2, 5, 5, halves("x.x ...")), 2, 4, 1, 1, 2, 2);
        asTold("all TAKEN, none ANSWERED yet", numbers(2, 2, 5, 5, halves("..x ...")), 2, 4, 2, 0, 2, 2);
    }

    /** "behind any FRAME ..: the most": not that of the last FRAME; 29 at most. */
    private static void aheadIsTheMost() {
        asTold("less later", numbers(4, 3, 5, 5, halves("x... .x. ..")), 3, 6, 0, 2, 4, 4);
        int seed = 1;
        while (!losesTheFirstOneAlone(seed)) seed++;
        MainsLetters x = new MainsLetters();
        due.is("29 are ahead of the first one", x.flow(30, 8, 1, 0, seed, 3), 29);
        due.is("all are TAKEN at the end", x.flow(30, 8, 1, 0, seed, 4), 30);
    }

    /** Four FRAMES of 8, each without its first PART, which is PART 0; then one of PART 0 and the last one. */
    private static boolean losesTheFirstOneAlone(int first) {
        int seed = first;
        for (int frame = 0; frame < 5; frame++) {
            for (int part = 0; part < (frame < 4 ? 8 : 2); part++) {
                seed = Due.seedBehind(seed);
                if (Due.drawn(seed, 10) < 1 != (part == 0)) return false;
            }
            seed = Due.seedBehind(seed);
        }
        return true;
    }

    /** In which FRAME the last of 30 PARTS is ANSWERED, one PART a FRAME, BAD 0, DEAF 9; 202 if it is later than 201. */
    private static int lastFrame(int first) {
        int seed = first;
        int answered = 0;
        for (int frame = 1; frame <= 201; frame++) {
            seed = Due.seedBehind(Due.seedBehind(seed));
            if (Due.drawn(seed, 10) == 9) answered++;
            if (answered == 30) return frame;
        }
        return 202;
    }

    private static int seedThatEndsIn(int frame) {
        int seed = 1;
        while (lastFrame(seed) != frame) seed++;
        return seed;
    }

    /** "It ends when all are ANSWERED, or behind 200 FRAMES." */
    private static void endsBehind200Frames() {
        asTold("ends in FRAME 199", numbers(30, 1, 0, 9, seedThatEndsIn(199)), 199, 199, 169, 0, 30, 30);
        asTold("ends in FRAME 200", numbers(30, 1, 0, 9, seedThatEndsIn(200)), 200, 200, 170, 0, 30, 30);
        asTold("would end in FRAME 201", numbers(30, 1, 0, 9, seedThatEndsIn(201)), 200, 200, 170, 0, 30, 29);
        Model model = new Model();
        int seed = 1;
        while (model.flow(30, 8, 9, 9, seed, 0) < 200 || model.flow(30, 8, 9, 9, seed, 5) == 30) seed++;
        int[] wants = new int[6];
        for (int what = 0; what < 6; what++) wants[what] = model.flow(30, 8, 9, 9, seed, what);
        asTold("200 FRAMES of many PARTS", numbers(30, 8, 9, 9, seed), wants);
    }

    /** Each FLOW is by its own numbers alone. */
    private static void nothingIsLeftOfAnEarlierFlow() {
        MainsLetters x = new MainsLetters();
        for (int what = 0; what <= 5; what++) {
            x.flow(30, 8, 9, 9, 4, what);
            due.is("behind a long FLOW, what " + what, x.flow(1, 1, 0, 0, 1, what), what == 2 || what == 3 ? 0 : 1);
            due.is("a refused one, what " + what, x.flow(31, 1, 0, 0, 1, what), O);
            due.is("behind a refused one, what " + what, x.flow(1, 1, 0, 0, 1, what), what == 2 || what == 3 ? 0 : 1);
        }
    }
}
