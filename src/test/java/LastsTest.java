/** Promises 9 and 10: lasts, way. */
public final class LastsTest {
    private static final int U = MainsLetters.UNKNOWN, O = MainsLetters.OUTSIDE, N = MainsLetters.NONE;
    private static final int[] WRONG = {-1, Integer.MIN_VALUE, Integer.MAX_VALUE};
    private static final Due due = new Due();

    public static void main(String[] args) {
        bytesLast();
        lastsRefused();
        waysByBridges();
        waysOfEqualLength();
        waysRefused();
        due.end();
    }

    private static void bytesLast() {
        MainsLetters x = new MainsLetters();
        due.is("4 bytes by 32", x.lasts(0, 1, 4), 1);
        due.is("5 bytes by 32", x.lasts(0, 1, 5), 2);
        due.is("80 bytes by 32", x.lasts(0, 1, 80), 20);
        due.is("81 bytes by 32", x.lasts(0, 1, 81), 21);
        due.is("2000 bytes by 32", x.lasts(0, 1, 2000), 500);
        Due.disturb(x, 1, 0, 60);
        due.is("1 byte, half 0 is dumb", x.lasts(0, 1, 1), 11);
        due.is("40 bytes, half 0 is dumb", x.lasts(0, 1, 40), 20);
        due.is("41 bytes, half 0 is dumb", x.lasts(0, 1, 41), 31);
        due.is("the other way", x.lasts(1, 0, 41), 11);
        Due.disturb(x, 1, 0, 10);
        Due.disturb(x, 1, 1, 60);
        due.is("40 bytes, half 1 is dumb", x.lasts(0, 1, 40), 10);
        due.is("41 bytes, half 1 is dumb", x.lasts(0, 1, 41), 21);
        due.is("2000 bytes, half 1 is dumb", x.lasts(0, 1, 2000), 990);
        x.noise(1, 0, 1, 10);
        due.is("unlike halves, 40 bytes", x.lasts(0, 1, 40), 10);
        due.is("unlike halves, 41 bytes", x.lasts(0, 1, 41), 12);
        due.is("unlike halves, 45 bytes", x.lasts(0, 1, 45), 20);
        due.is("unlike halves, 46 bytes", x.lasts(0, 1, 46), 21);
        slowest(x);
        x.key(1, 1);
        due.is("not of one key", x.lasts(0, 1, 1), N);
        x.key(0, 1);
        due.is("of one key again", x.lasts(0, 1, 1), 18);
        Due.disturb(x, 1, 1, 60);
        due.is("not heard", x.lasts(0, 1, 1), N);
    }

    private static void slowest(MainsLetters x) {
        Due.disturb(x, 1, 0, 60);
        x.noise(1, 0, 1, 23);
        due.is("1 bit in half 1 alone, 1 byte", x.lasts(0, 1, 1), 18);
        due.is("1 bit in half 1 alone, 2 bytes", x.lasts(0, 1, 2), 36);
        due.is("1 bit in half 1 alone, 5 bytes", x.lasts(0, 1, 5), 80);
        due.is("1 bit in half 1 alone, 2000 bytes", x.lasts(0, 1, 2000), 32000);
    }

    private static void lastsRefused() {
        MainsLetters x = new MainsLetters();
        for (int w : WRONG) {
            due.is("lasts, a is " + w, x.lasts(w, 0, 1), U);
            due.is("lasts, b is " + w, x.lasts(0, w, 1), U);
            due.is("lasts, n is " + w, x.lasts(0, 1, w), O);
            due.is("lasts, all are " + w, x.lasts(w, w, w), U);
        }
        due.is("lasts(6, 0, 1)", x.lasts(6, 0, 1), U);
        due.is("lasts(0, 6, 0)", x.lasts(0, 6, 0), U);
        due.is("lasts(0, 1, 0)", x.lasts(0, 1, 0), O);
        due.is("lasts(0, 1, 2001)", x.lasts(0, 1, 2001), O);
        due.is("lasts(3, 3, 1): one does not reach itself", x.lasts(3, 3, 1), N);
        due.is("lasts(3, 3, 0)", x.lasts(3, 3, 0), O);
    }

    private static void asRow(MainsLetters x, int a, int b, int n, int symbols, int... row) {
        String call = "way(" + a + ", " + b + ", " + n + ", ";
        due.is(call + "-2)", x.way(a, b, n, -2), symbols);
        due.is(call + "-1)", x.way(a, b, n, -1), row.length == 0 ? N : row.length);
        for (int k = 0; k < 6; k++) {
            due.is(call + k + ")", x.way(a, b, n, k), k < row.length ? row[k] : N);
        }
    }

    private static void waysByBridges() {
        MainsLetters x = new MainsLetters();
        asRow(x, 0, 5, 40, 10, 0, 5);
        for (int a = 0; a < 6; a++) {
            for (int b = a + 2; b < 6; b++) Due.lose(x, a, b, 60);
        }
        asRow(x, 0, 5, 40, 50, 0, 1, 2, 3, 4, 5);
        asRow(x, 5, 0, 40, 50, 5, 4, 3, 2, 1, 0);
        asRow(x, 4, 2, 41, 22, 4, 3, 2);
        x.key(2, 1);
        asRow(x, 0, 5, 40, N);
        asRow(x, 3, 5, 40, 20, 3, 4, 5);
        for (int s = 0; s < 6; s++) x.key(s, 1);
        asRow(x, 0, 5, 40, 50, 0, 1, 2, 3, 4, 5);
        Due.disturb(x, 3, 0, 60);
        asRow(x, 0, 5, 40, 60, 0, 1, 2, 3, 4, 5);
        Due.disturb(x, 3, 1, 60);
        asRow(x, 0, 5, 40, N);
        asRow(x, 5, 0, 40, N);
        asRow(x, 3, 5, 40, 20, 3, 4, 5);
    }

    private static void waysOfEqualLength() {
        MainsLetters x = new MainsLetters();
        Due.lose(x, 0, 5, 36);
        // 0 to 5: 11 less 0 is 3 bits a tone, so 24 a symbol; by a bridge it takes 32 a symbol, twice.
        asRow(x, 0, 5, 40, 14, 0, 5);
        Due.lose(x, 0, 5, 40);
        // now 16 a symbol: 20 symbols, as by a bridge; the fewest stations are best
        asRow(x, 0, 5, 40, 20, 0, 5);
        asRow(x, 0, 5, 41, 21, 0, 5);
        Due.lose(x, 0, 5, 43);
        asRow(x, 0, 5, 40, 20, 0, 1, 5);
        asRow(x, 5, 0, 40, 20, 5, 1, 0);
        Due.lose(x, 0, 1, 31);
        x.margin(0);
        asRow(x, 0, 5, 48, 16, 0, 2, 5);
        Due.lose(x, 3, 5, 0);
        asRow(x, 0, 5, 80, 22, 0, 3, 5);
        x.key(3, 1);
        asRow(x, 0, 5, 80, 28, 0, 2, 5);
    }

    private static void waysRefused() {
        MainsLetters x = new MainsLetters();
        for (int w : WRONG) {
            due.is("way, a is " + w, x.way(w, 0, 1, 0), U);
            due.is("way, b is " + w, x.way(0, w, 1, 0), U);
            due.is("way, n is " + w, x.way(0, 1, w, 0), O);
            if (w != -1) due.is("way, k is " + w, x.way(0, 1, 1, w), O);
        }
        due.is("way(6, 0, 1, 0)", x.way(6, 0, 1, 0), U);
        due.is("way(0, 6, 1, 0)", x.way(0, 6, 1, 0), U);
        due.is("way(2, 2, 0, 9): they are one", x.way(2, 2, 0, 9), U);
        due.is("way(0, 1, 0, 0)", x.way(0, 1, 0, 0), O);
        due.is("way(0, 1, 2001, 0)", x.way(0, 1, 2001, 0), O);
        due.is("way(0, 1, 1, -3)", x.way(0, 1, 1, -3), O);
        due.is("way(0, 1, 1, 6)", x.way(0, 1, 1, 6), O);
        due.is("way(0, 1, 1, 5)", x.way(0, 1, 1, 5), N);
        x.key(0, 1);
        due.is("no way, k is 6", x.way(0, 1, 1, 6), O);
        due.is("no way, k is -2", x.way(0, 1, 1, -2), N);
    }
}
