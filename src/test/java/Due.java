/** What the project's tests share: answers that are due, and seeds that draw what a test wants. */
final class Due {
    private int asked = 0;
    private int wrong = 0;

    void is(String call, long got, long want) {
        asked++;
        if (got == want) return;
        wrong++;
        if (wrong <= 50) System.out.println(call + " answered " + got + ", due is " + want);
    }

    void holds(String what, boolean so) {
        asked++;
        if (so) return;
        wrong++;
        if (wrong <= 50) System.out.println("not so: " + what);
    }

    /** What ofStation tells of a station from 1 on. */
    void told(String name, MainsLetters x, int s, int... wants) {
        for (int i = 0; i < wants.length; i++) is(name + ": ofStation(" + s + ", " + (i + 1) + ")", x.ofStation(s, i + 1), wants[i]);
    }

    void end() {
        System.out.println(wrong == 0 ? asked + " answers are as due" : wrong + " of " + asked + " answers are not as due");
        if (wrong != 0) System.exit(1);
    }

    static int seedBehind(int seed) {
        return (int) (1103515245L * seed + 12345L);
    }

    /** The seed whose next one this is. */
    static int seedBefore(int seed) {
        int inverse = 1;
        for (int i = 0; i < 5; i++) inverse *= 2 - 1103515245 * inverse;
        return (seed - 12345) * inverse;
    }

    static int drawn(int seed, int width) {
        return (int) ((seed & 0xFFFFFFFFL) / 65536L % width);
    }

    /** The first seed from 1 on whose next draws leave what is wanted: width, rest, width, rest, .. */
    static int seedThatDraws(int... widthsAndRests) {
        for (int first = 1; first < 1_000_000_000; first++) {
            int seed = first;
            int i = 0;
            while (i < widthsAndRests.length) {
                seed = seedBehind(seed);
                if (drawn(seed, widthsAndRests[i]) != widthsAndRests[i + 1]) break;
                i += 2;
            }
            if (i >= widthsAndRests.length) return first;
        }
        throw new IllegalStateException("no seed draws this");
    }

    /** All tones of two stations get a loss. */
    static void lose(MainsLetters x, int a, int b, int v) {
        for (int tone = 0; tone < 8; tone++) x.loss(a, b, tone, v);
    }

    /** A station hears none from now on. */
    static void deafen(MainsLetters x, int s) {
        disturb(x, s, 0, 60);
        disturb(x, s, 1, 60);
    }

    /** All tones of a station get a noise, in one half. */
    static void disturb(MainsLetters x, int s, int half, int v) {
        for (int tone = 0; tone < 8; tone++) x.noise(s, tone, half, v);
    }
}
