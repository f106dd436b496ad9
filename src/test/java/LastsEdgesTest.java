/** Part 2 at its edges; each test bears the document's words that it is of. */
public final class LastsEdgesTest {
    private static final int U = MainsLetters.UNKNOWN, O = MainsLetters.OUTSIDE, N = MainsLetters.NONE;
    private static final int[] BITS = {10, 8, 6, 4, 3, 2, 1, 0};
    private static final int[] LOUDEST = {25, 31, 37, 43, 46, 50, 53, 60};
    private static final Due due = new Due();

    public static void main(String[] args) {
        bytesFrom1To2000();
        eightTimesOrMore();
        tenOfAHalf();
        oneHalfIsDumb();
        fastestAndSlowest();
        symbolBySymbol();
        noneIfItDoesNotReach();
        wayBytesAndPlaces();
        placesBeyondTheWay();
        noWay();
        longestWay();
        leastTogether();
        fewestStations();
        firstAsARow();
        eachStepFromAHalf0On();
        bridgesReachTheNextOne();
        due.end();
    }

    /** SPEEDS from a to b in both HALVES; 0 .. 80 each, but for 75, 77, 79, which no BITS make up. */
    private static MainsLetters withSpeeds(int a, int b, int inHalf0, int inHalf1) {
        MainsLetters x = new MainsLetters();
        Due.lose(x, a, b, 0);
        for (int half = 0; half < 2; half++) {
            int rest = half == 0 ? inHalf0 : inHalf1;
            for (int tone = 0; tone < 8; tone++) {
                int i = 0;
                while (BITS[i] > rest) i++;
                x.noise(b, tone, half, LOUDEST[i]);
                rest -= BITS[i];
            }
        }
        due.is("speed in HALF 0", x.speed(a, b, 0), inHalf0);
        due.is("speed in HALF 1", x.speed(a, b, 1), inHalf1);
        return x;
    }

    /** Bytes and symbols by turns. */
    private static void last(int inHalf0, int inHalf1, int... bytesAndSymbols) {
        MainsLetters x = withSpeeds(4, 2, inHalf0, inHalf1);
        for (int i = 0; i < bytesAndSymbols.length; i += 2) {
            String call = inHalf0 + " and " + inHalf1 + ": lasts(4, 2, " + bytesAndSymbols[i] + ")";
            due.is(call, x.lasts(4, 2, bytesAndSymbols[i]), bytesAndSymbols[i + 1]);
        }
    }

    /** "How many SYMBOLS n BYTES (1 .. 2000) LAST" */
    private static void bytesFrom1To2000() {
        last(8, 8, 0, O, 1, 1, 2, 2, 1999, 1999, 2000, 2000, 2001, O, Integer.MIN_VALUE, O, Integer.MAX_VALUE, O);
        MainsLetters x = new MainsLetters();
        due.is("lasts(-1, 0, 0)", x.lasts(-1, 0, 0), U);
        due.is("lasts(0, -1, 2001)", x.lasts(0, -1, 2001), U);
        due.is("lasts(6, 6, 1)", x.lasts(6, 6, 1), U);
        x.key(0, 1);
        due.is("OUTSIDE goes ahead of NONE, 0", x.lasts(0, 1, 0), O);
        due.is("OUTSIDE goes ahead of NONE, 2001", x.lasts(0, 1, 2001), O);
        due.is("NONE for 1", x.lasts(0, 1, 1), N);
        due.is("NONE for 2000", x.lasts(0, 1, 2000), N);
    }

    /** "till SPEEDS of these together .. are 8 times n or more": as many, and one bit less. */
    private static void eightTimesOrMore() {
        last(8, 8, 3, 3, 10, 10, 11, 11, 20, 20, 21, 21);
        last(7, 7, 1, 2, 7, 8, 8, 10, 14, 16, 35, 40, 36, 42);
        last(9, 9, 1, 1, 2, 2, 8, 8, 9, 8, 10, 9, 18, 16, 19, 17);
        last(80, 80, 10, 1, 11, 2, 20, 2, 21, 3);
        last(73, 73, 9, 1, 10, 2, 18, 2, 19, 3);
    }

    /** "10 of a HALF 0, 10 of a HALF 1, and so on": the 10th and the 11th, the 20th and the 21st. */
    private static void tenOfAHalf() {
        last(8, 16, 9, 9, 10, 10, 11, 11, 12, 11, 13, 12, 28, 19, 30, 20, 31, 21, 40, 30, 41, 31, 42, 31, 43, 32);
        last(16, 8, 19, 10, 20, 10, 21, 11, 22, 12, 30, 20, 31, 21, 32, 21, 33, 22, 50, 30, 51, 31, 52, 32);
    }

    private static void oneHalfIsDumb() {
        last(80, 0, 1, 1, 100, 10, 101, 21, 200, 30, 201, 41, 2000, 390);
        last(0, 80, 1, 11, 10, 11, 11, 12, 100, 20, 101, 31, 200, 40, 201, 51, 2000, 400);
        last(1, 0, 1, 8, 2, 26, 5, 70, 6, 88, 2000, 31990);
        last(0, 1, 1, 18, 2, 36, 5, 80, 6, 98, 2000, 32000);
    }

    private static void fastestAndSlowest() {
        last(80, 80, 1, 1, 2000, 200);
        last(1, 1, 1, 8, 2, 16, 2000, 16000);
        last(1, 80, 1, 8, 2, 11, 11, 11, 12, 12, 101, 20, 102, 26);
    }

    /** The sum, symbol by symbol, for all bytes. */
    private static void symbolBySymbol() {
        int[][] speeds = {{13, 5}, {0, 3}, {3, 0}, {80, 1}, {1, 80}, {78, 73}, {32, 31}};
        for (int[] two : speeds) {
            int bytes = 1;
            while (bytes <= 2000) {
                MainsLetters x = withSpeeds(4, 2, two[0], two[1]);
                for (int i = 0; i < 400 && bytes <= 2000; i++, bytes++) {
                    int sum = 0;
                    int symbols = 0;
                    while (sum < 8 * bytes) sum += two[symbols++ / 10 % 2];
                    due.is(two[0] + " and " + two[1] + ": " + bytes + " bytes", x.lasts(4, 2, bytes), symbols);
                }
            }
        }
    }

    /** "NONE: a does not REACH b": they are one, of other KEYS, not heard, or heard the other way alone. */
    private static void noneIfItDoesNotReach() {
        MainsLetters x = withSpeeds(0, 1, 8, 8);
        due.is("it reaches", x.lasts(0, 1, 1), 1);
        x.key(0, 1);
        due.is("other KEYS", x.lasts(0, 1, 1), N);
        due.is("other KEYS, the other way", x.lasts(1, 0, 1), N);
        x.key(0, 0);
        due.is("one", x.lasts(0, 0, 1), N);
        Due.disturb(x, 1, 0, 60);
        due.is("heard in HALF 1", x.lasts(0, 1, 1), 11);
        Due.disturb(x, 1, 1, 60);
        due.is("not heard", x.lasts(0, 1, 1), N);
        due.is("heard the other way", x.lasts(1, 0, 10), 1);
    }

    /** No two hear one another but those told as a, b, LOSS at each TONE: 30 is 32 a symbol, 40 is 16, 43 is 8. */
    private static MainsLetters only(int... twosAndLosses) {
        MainsLetters x = new MainsLetters();
        for (int a = 0; a < 6; a++) {
            for (int b = a + 1; b < 6; b++) Due.lose(x, a, b, 60);
        }
        for (int i = 0; i < twosAndLosses.length; i += 3) Due.lose(x, twosAndLosses[i], twosAndLosses[i + 1], twosAndLosses[i + 2]);
        return x;
    }

    private static void asRow(String name, MainsLetters x, int a, int b, int n, int symbols, int... row) {
        String call = name + ": way(" + a + ", " + b + ", " + n + ", ";
        due.is(call + "-2)", x.way(a, b, n, -2), symbols);
        due.is(call + "-1)", x.way(a, b, n, -1), row.length == 0 ? N : row.length);
        for (int k = 0; k < 6; k++) due.is(call + k + ")", x.way(a, b, n, k), k < row.length ? row[k] : N);
    }

    private static final int[] CHAIN = {0, 1, 30, 1, 2, 30, 2, 3, 30, 3, 4, 30, 4, 5, 30};

    /** "BEST WAY for n BYTES (1 .. 2000) .. (k -2) .. (k -1) .. k-th STATION (0 .. 5)" */
    private static void wayBytesAndPlaces() {
        MainsLetters x = only(CHAIN);
        asRow("chain", x, 0, 5, 1, 5, 0, 1, 2, 3, 4, 5);
        asRow("chain", x, 0, 5, 2000, 2500, 0, 1, 2, 3, 4, 5);
        asRow("chain", x, 5, 0, 4, 5, 5, 4, 3, 2, 1, 0);
        for (int k = -2; k <= 5; k++) {
            due.is("0 bytes, k " + k, x.way(0, 5, 0, k), O);
            due.is("2001 bytes, k " + k, x.way(0, 5, 2001, k), O);
        }
        for (int k : new int[] {-3, 6, Integer.MIN_VALUE, Integer.MAX_VALUE}) {
            due.is("k " + k, x.way(0, 5, 1, k), O);
            due.is("0 bytes, k " + k, x.way(0, 5, 0, k), O);
            due.is("they are one, k " + k, x.way(0, 0, 1, k), U);
            due.is("STATION 6, k " + k, x.way(0, 6, 1, k), U);
            due.is("STATION -1, k " + k, x.way(-1, 0, 1, k), U);
        }
    }

    /** "NONE: .. it has not so many": the place behind the last one, and that of the last one. */
    private static void placesBeyondTheWay() {
        MainsLetters x = only(CHAIN);
        for (int b = 1; b < 6; b++) {
            due.is("STATIONS to " + b, x.way(0, b, 9, -1), b + 1);
            due.is("the last place to " + b, x.way(0, b, 9, b), b);
            for (int k = b + 1; k < 6; k++) due.is("place " + k + " to " + b, x.way(0, b, 9, k), N);
        }
    }

    /** "NONE: there is no WAY": for each k that is let be; OUTSIDE goes ahead. */
    private static void noWay() {
        MainsLetters x = only();
        asRow("apart", x, 0, 1, 1, N);
        due.is("apart, k 6", x.way(0, 1, 1, 6), O);
        due.is("apart, k -3", x.way(0, 1, 1, -3), O);
        due.is("apart, 0 bytes", x.way(0, 1, 0, 0), O);
        x = only(CHAIN);
        x.key(3, 1);
        asRow("a bridge of another KEY", x, 2, 4, 1, N);
        asRow("up to the bridge", x, 0, 2, 1, 2, 0, 1, 2);
    }

    /** Five steps of one bit in HALF 1 each. */
    private static void longestWay() {
        MainsLetters x = only(0, 1, 43, 1, 2, 43, 2, 3, 43, 3, 4, 43, 4, 5, 43);
        MainsLetters y = only(0, 1, 43);
        for (int s = 0; s < 6; s++) {
            Due.disturb(x, s, 0, 60);
            for (int tone = 1; tone < 8; tone++) x.noise(s, tone, 1, 60);
        }
        asRow("slowest", x, 0, 5, 2000, 160000, 0, 1, 2, 3, 4, 5);
        asRow("slowest", x, 5, 0, 1, 90, 5, 4, 3, 2, 1, 0);
        asRow("slow", y, 0, 1, 2000, 2000, 0, 1);
    }

    /** "is together the least": one SYMBOL less by a bridge; other BYTES may go another WAY. */
    private static void leastTogether() {
        MainsLetters x = only(0, 5, 40, 0, 3, 30, 3, 5, 30);
        asRow("as much by the bridge", x, 0, 5, 40, 20, 0, 5);
        asRow("one less by itself", x, 0, 5, 39, 20, 0, 5);
        x = only(0, 5, 40, 0, 3, 30, 3, 5, 27);
        asRow("less by the bridge", x, 0, 5, 40, 17, 0, 3, 5);
        asRow("less by itself, of few BYTES", x, 0, 5, 2, 1, 0, 5);
        asRow("as much, of few BYTES", x, 0, 5, 4, 2, 0, 5);
    }

    /** "of several that of the fewest STATIONS", be it the last one as a row. */
    private static void fewestStations() {
        MainsLetters x = only(0, 1, 30, 1, 2, 30, 2, 5, 30, 0, 3, 40, 3, 5, 30);
        asRow("three of four", x, 0, 5, 40, 30, 0, 3, 5);
        asRow("three of four, back", x, 5, 0, 40, 30, 5, 3, 0);
        asRow("three, as it is less", x, 0, 5, 41, 32, 0, 3, 5);
        Due.lose(x, 0, 3, 41);
        asRow("four, as it is less", x, 0, 5, 40, 30, 0, 1, 2, 5);
        x = only(0, 1, 30, 1, 2, 30, 2, 3, 30, 3, 4, 40, 2, 4, 43, 4, 5, 30);
        asRow("five, as it is less", x, 0, 4, 40, 50, 0, 1, 2, 3, 4);
        Due.lose(x, 3, 4, 43);
        asRow("four, as it is less", x, 0, 4, 40, 60, 0, 1, 2, 4);
    }

    /** "of these the first as a row": the first place at which they are unlike. */
    private static void firstAsARow() {
        MainsLetters x = only(0, 1, 30, 1, 4, 30, 4, 5, 30, 0, 2, 30, 2, 3, 30, 3, 5, 30);
        asRow("1, 4 ahead of 2, 3", x, 0, 5, 40, 30, 0, 1, 4, 5);
        asRow("3, 2 ahead of 4, 1", x, 5, 0, 40, 30, 5, 3, 2, 0);
        x = only(0, 1, 30, 1, 4, 30, 4, 5, 30, 1, 3, 30, 3, 5, 30);
        asRow("1, 3 ahead of 1, 4", x, 0, 5, 40, 30, 0, 1, 3, 5);
        asRow("3, 1 ahead of 4, 1", x, 5, 0, 40, 30, 5, 3, 1, 0);
        x = new MainsLetters();
        Due.lose(x, 2, 3, 60);
        asRow("0 ahead of all", x, 2, 3, 40, 20, 2, 0, 3);
        x.key(0, 1);
        asRow("1, as 0 has another KEY", x, 3, 2, 40, 20, 3, 1, 2);
    }

    /** "from the first one of a HALF 0 on": for each step of a WAY, whatever went ahead of it. */
    private static void eachStepFromAHalf0On() {
        MainsLetters x = only(CHAIN);
        for (int s = 0; s < 6; s++) Due.disturb(x, s, 1, 60);
        asRow("HALF 1 is dumb", x, 0, 2, 40, 20, 0, 1, 2);
        asRow("HALF 1 is dumb", x, 0, 2, 41, 42, 0, 1, 2);
        for (int s = 0; s < 6; s++) {
            Due.disturb(x, s, 1, 10);
            Due.disturb(x, s, 0, 60);
        }
        asRow("HALF 0 is dumb", x, 0, 2, 4, 22, 0, 1, 2);
        asRow("HALF 0 is dumb", x, 2, 0, 41, 62, 2, 1, 0);
    }

    /** "each of which REACHES the next one": not the other way. */
    private static void bridgesReachTheNextOne() {
        MainsLetters x = only(CHAIN);
        Due.disturb(x, 2, 0, 60);
        Due.disturb(x, 2, 1, 60);
        asRow("2 hears none", x, 1, 3, 40, N);
        asRow("2 hears none", x, 2, 4, 40, 20, 2, 3, 4);
        asRow("2 hears none", x, 2, 0, 40, 20, 2, 1, 0);
        asRow("2 hears none", x, 3, 2, 40, N);
    }
}
