/** "An object is used for at most 512 calls": it answers as is due up to the 512th one, however much they ask. */
public final class CallsTest {
    private static final int CALLS = 512;
    private static final Due due = new Due();

    public static void main(String[] args) {
        slotsOf511Calls();
        lettersOf512Calls();
        longLettersOf512Calls();
        beyondThemNoneThrows();
        due.end();
    }

    private static void slotsOf511Calls() {
        MainsLetters x = new MainsLetters();
        for (int call = 1; call < CALLS; call++) due.is("pass(1000)", x.pass(1000), 0);
        due.is("SLOTS behind 511 calls", x.many(3), 511000);
    }

    /** A call in each three writes, one sets SEED so that COUNT is 0, one lets a SLOT go by. */
    private static void lettersOf512Calls() {
        MainsLetters x = new MainsLetters();
        int seed = Due.seedThatDraws(8, 0);
        for (int round = 1; round <= 170; round++) {
            x.seed(seed);
            due.is("COUNT", x.write(round % 6, (round + 1) % 6, round % 4, 40), 0);
            due.is("arrived", x.pass(1), 1);
        }
        due.is("call 511: ARRIVED", x.many(4), 170);
        due.is("call 512: SLOTS", x.many(3), 170);
    }

    /** A crowd that collides on and on, set beside the model, call by call. */
    private static void longLettersOf512Calls() {
        MainsLetters x = new MainsLetters();
        Model y = new Model();
        for (int call = 0; call < CALLS; call++) {
            int s = call % 6;
            if (call < 8) due.is("loss", x.loss(0, 1, call, 60), y.loss(0, 1, call, 60));
            else if (call % 9 == 0) due.is("pass", x.pass(1000), y.pass(1000));
            else if (call % 3 == 0) due.is("pass", x.pass(7), y.pass(7));
            else if (call % 5 == 0) due.is("ofStation", x.ofStation(s, 11), y.ofStation(s, 11));
            else due.is("write", x.write(s, (s + 1 + call % 5) % 6, call % 4, 400), y.write(s, (s + 1 + call % 5) % 6, call % 4, 400));
        }
    }

    /** Nothing is promised of their answers, but LANGUAGE.md lets no call throw. */
    private static void beyondThemNoneThrows() {
        MainsLetters x = new MainsLetters();
        int sum = 0;
        for (int call = 0; call < 4 * CALLS; call++) {
            sum |= x.write(call % 6, (call + 1) % 6, call % 4, 1 + call % 400);
            sum |= x.pass(1 + call % 1000);
            sum |= x.flow(30, 8, 9, 9, call, call % 6);
            sum |= x.way(call % 6, (call + 1) % 6, 2000, -2);
        }
        due.holds("all calls ended", sum != 0);
    }
}
