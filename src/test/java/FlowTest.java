/** Promise 16: flow. */
public final class FlowTest {
    private static final int O = MainsLetters.OUTSIDE;
    private static final int[] WRONG = {-1, Integer.MIN_VALUE, Integer.MAX_VALUE};
    private static final Due due = new Due();

    public static void main(String[] args) {
        withoutLosses();
        oneFrameAtATime();
        refused();
        due.end();
    }

    private static void asTold(MainsLetters x, int[] args, int... wants) {
        for (int what = 0; what < 6; what++) {
            String call = "flow(" + args[0] + ", " + args[1] + ", " + args[2] + ", " + args[3] + ", " + args[4] + ", " + what + ")";
            due.is(call, x.flow(args[0], args[1], args[2], args[3], args[4], what), wants[what]);
        }
    }

    private static void withoutLosses() {
        MainsLetters x = new MainsLetters();
        asTold(x, new int[] {1, 8, 0, 0, 5}, 1, 1, 0, 0, 1, 1);
        asTold(x, new int[] {30, 8, 0, 0, Integer.MAX_VALUE}, 4, 30, 0, 0, 30, 30);
        asTold(x, new int[] {30, 1, 0, 0, Integer.MIN_VALUE}, 30, 30, 0, 0, 30, 30);
        asTold(x, new int[] {16, 8, 0, 0, 0}, 2, 16, 0, 0, 16, 16);
        due.is("the seed of letters stays", x.seed(1), 1);
    }

    private static void oneFrameAtATime() {
        MainsLetters x = new MainsLetters();
        // the first of three is lost, the others are two ahead of it; then it comes alone
        int seed = Due.seedThatDraws(10, 4, 10, 5, 10, 6, 10, 0, 10, 5, 10, 0);
        asTold(x, new int[] {3, 3, 5, 0, seed}, 2, 4, 0, 2, 3, 3);
        // the same, with an answer that is lost behind the first frame: what was taken goes again
        seed = Due.seedThatDraws(10, 4, 10, 5, 10, 6, 10, 2, 10, 9, 10, 4, 10, 9, 10, 3);
        asTold(x, new int[] {3, 3, 5, 3, seed}, 2, 6, 1, 2, 3, 3);
        // all is taken, the answer is lost: all are doubles, none is ahead
        seed = Due.seedThatDraws(10, 1, 10, 1, 10, 0, 10, 1, 10, 1, 10, 1);
        asTold(x, new int[] {2, 2, 1, 1, seed}, 2, 4, 2, 0, 2, 2);
        // a frame takes the first ones that are not answered: 0 and 2 behind 0 and 1
        seed = Due.seedThatDraws(10, 0, 10, 9, 10, 9, 10, 9, 10, 9, 10, 9);
        asTold(x, new int[] {3, 2, 1, 1, seed}, 2, 4, 0, 1, 3, 3);
        // 0 and 2 are taken, 1 is lost: one is ahead of it; then 1 comes and 3 is lost; then 3 comes
        seed = Due.seedThatDraws(10, 9, 10, 0, 10, 9, 10, 9, 10, 9, 10, 0, 10, 9, 10, 9);
        asTold(x, new int[] {4, 3, 1, 0, seed}, 3, 6, 0, 1, 4, 4);
        // a part that was taken before and is lost now is answered all the same
        seed = Due.seedThatDraws(10, 9, 10, 0, 10, 0, 10, 9);
        asTold(x, new int[] {1, 1, 1, 1, seed}, 2, 2, 0, 0, 1, 1);
        // an answer to a frame of which nothing was taken answers nothing
        seed = Due.seedThatDraws(10, 0, 10, 9, 10, 9, 10, 9);
        asTold(x, new int[] {1, 1, 9, 9, seed}, 2, 2, 0, 0, 1, 1);
        endsBehind200();
    }

    private static void endsBehind200() {
        MainsLetters x = new MainsLetters();
        // one part a frame, nine of ten answers are lost: 200 frames are seldom enough for 30 parts
        int seed = 1;
        while (x.flow(30, 1, 0, 9, seed, 5) == 30) seed++;
        int answered = x.flow(30, 1, 0, 9, seed, 5);
        int taken = x.flow(30, 1, 0, 9, seed, 4);
        asTold(x, new int[] {30, 1, 0, 9, seed}, 200, 200, 200 - taken, 0, taken, answered);
        due.holds("the part that is taken last may be without an answer", taken == answered || taken == answered + 1);
    }

    private static void refused() {
        MainsLetters x = new MainsLetters();
        for (int w : WRONG) {
            due.is("flow, n is " + w, x.flow(w, 1, 0, 0, 1, 0), O);
            due.is("flow, window is " + w, x.flow(1, w, 0, 0, 1, 0), O);
            due.is("flow, bad is " + w, x.flow(1, 1, w, 0, 1, 0), O);
            due.is("flow, deaf is " + w, x.flow(1, 1, 0, w, 1, 0), O);
            due.is("flow, what is " + w, x.flow(1, 1, 0, 0, 1, w), O);
            due.is("flow, seed is " + w, x.flow(1, 1, 0, 0, w, 0), 1);
        }
        due.is("flow(0, ..)", x.flow(0, 1, 0, 0, 1, 0), O);
        due.is("flow(31, ..)", x.flow(31, 1, 0, 0, 1, 0), O);
        due.is("flow(1, 0, ..)", x.flow(1, 0, 0, 0, 1, 0), O);
        due.is("flow(1, 9, ..)", x.flow(1, 9, 0, 0, 1, 0), O);
        due.is("flow(1, 1, 10, ..)", x.flow(1, 1, 10, 0, 1, 0), O);
        due.is("flow(1, 1, 0, 10, ..)", x.flow(1, 1, 0, 10, 1, 0), O);
        due.is("flow(.., 6)", x.flow(1, 1, 0, 0, 1, 6), O);
        due.is("flow(30, 8, 9, 9, 1, 5) is told", x.flow(30, 8, 9, 9, 1, 5) >= 0 ? 1 : 0, 1);
    }
}
