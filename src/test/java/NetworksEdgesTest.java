import java.util.ArrayList;
import java.util.Arrays;
import java.util.List;

/** Part 5 and what many tells, at their edges; each test bears the document's words that it is of. */
public final class NetworksEdgesTest {
    private static final int U = MainsLetters.UNKNOWN, O = MainsLetters.OUTSIDE;
    private static final Due due = new Due();

    public static void main(String[] args) {
        keysFrom0To5();
        turnsAlsoOfMinus1();
        networksThatAreThere();
        noNetworkDisturbsItself();
        oneBitOneWayDisturbs();
        eachOneWayDisturbs();
        someStationIsEnough();
        everyWayToDisturb();
        keysBetweenThatAreNotThere();
        manyFrom0To10();
        hiddenTwos();
        networksFrom1To6();
        stationsThatNoneHears();
        due.end();
    }

    /** "UNKNOWN: KEY (no STATION has it: so, too)" */
    private static void keysFrom0To5() {
        MainsLetters x = new MainsLetters();
        for (int s = 0; s < 6; s++) x.key(s, s);
        for (int key : new int[] {Integer.MIN_VALUE, -2, -1, 6, 7, 31, 32, 33, 64, Integer.MAX_VALUE}) {
            due.is("disturbs(" + key + ")", x.disturbs(key), U);
        }
        for (int key = 0; key < 6; key++) due.is("disturbs(" + key + ")", x.disturbs(key), 63 - (1 << key));
        x.key(0, 5);
        due.is("none has 0 any more", x.disturbs(0), U);
        due.is("5 is there twice", x.disturbs(5), 30);
        x.key(5, 0);
        due.is("0 is there again", x.disturbs(0), 62);
        due.is("5 is there yet", x.disturbs(5), 31);
        x.key(0, 0);
        due.is("none has 5 any more", x.disturbs(5), U);
        due.is("5 disturbs none", x.disturbs(0), 30);
    }

    /** "UNKNOWN: KEY (-1 .. 5; no STATION has it: so, too)" */
    private static void turnsAlsoOfMinus1() {
        MainsLetters x = new MainsLetters();
        for (int key : new int[] {Integer.MIN_VALUE, -3, -2, 6, 7, 31, 32, Integer.MAX_VALUE}) due.is("turn(" + key + ")", x.turn(key), U);
        for (int key = 1; key < 6; key++) due.is("turn(" + key + "), none has it", x.turn(key), U);
        due.is("turn(-1)", x.turn(-1), 1);
        due.is("turn(0)", x.turn(0), 0);
        for (int s = 0; s < 6; s++) x.key(s, 5);
        due.is("turn(-1), KEY 5 alone", x.turn(-1), 1);
        due.is("turn(5), KEY 5 alone", x.turn(5), 0);
        due.is("turn(0), KEY 5 alone", x.turn(0), U);
    }

    /** "(those KEYS that some STATION has)": one STATION is enough, and they change with KEYS. */
    private static void networksThatAreThere() {
        for (int s = 0; s < 6; s++) {
            for (int key = 1; key < 6; key++) {
                MainsLetters x = new MainsLetters();
                x.key(s, key);
                due.is("NETWORKS", x.many(9), 2);
                due.is("disturbs(0)", x.disturbs(0), 1 << key);
                due.is("disturbs(" + key + ")", x.disturbs(key), 1);
                due.is("turn(-1)", x.turn(-1), 2);
                due.is("turn(0)", x.turn(0), 0);
                due.is("turn(" + key + ")", x.turn(key), 1);
                for (int t = 0; t < 6; t++) x.key(t, key);
                due.is("NETWORKS, one KEY", x.many(9), 1);
                due.is("turn(" + key + "), one KEY", x.turn(key), 0);
            }
        }
    }

    private static void noNetworkDisturbsItself() {
        MainsLetters x = new MainsLetters();
        due.is("all hear one another", x.disturbs(0), 0);
        x.key(0, 1);
        x.key(1, 1);
        due.is("two of KEY 1 hear one another", x.disturbs(1), 1);
        due.is("two of KEY 1 hear one another", x.disturbs(0), 2);
    }

    /** "if some STATION of one of them HEARS some STATION of the other one": one bit in one HALF, one way. */
    private static void oneBitOneWayDisturbs() {
        for (int half = 0; half < 2; half++) {
            MainsLetters x = new MainsLetters();
            x.key(3, 4);
            for (int s = 0; s < 6; s++) {
                if (s != 3) Due.lose(x, 3, s, 60);
            }
            due.is("3 is far", x.disturbs(4), 0);
            due.is("3 is far", x.turn(-1), 1);
            Due.deafen(x, 3);
            x.loss(3, 5, 6, 30);
            Due.disturb(x, 5, half, 60);
            Due.disturb(x, 5, 1 - half, 24);
            due.is("at 6 less 3", x.disturbs(4), 0);
            due.is("at 6 less 3", x.turn(4), 0);
            x.noise(5, 6, 1 - half, 23);
            due.is("5 hears 3 at 7 less 3", x.who(5, 0), 8 | x.who(5, 0));
            due.is("3 does not hear 5", x.who(3, 0), 0);
            due.is("at 7 less 3", x.disturbs(4), 1);
            due.is("at 7 less 3", x.disturbs(0), 16);
            due.is("at 7 less 3", x.turn(-1), 2);
            due.is("at 7 less 3", x.turn(4), 1);
        }
    }

    /** One STATION alone hears one other one, whichever they are. */
    private static void eachOneWayDisturbs() {
        for (int ear = 0; ear < 6; ear++) {
            for (int mouth = 0; mouth < 6; mouth++) {
                if (ear == mouth) continue;
                MainsLetters x = new MainsLetters();
                for (int s = 0; s < 6; s++) {
                    if (s != ear) Due.deafen(x, s);
                    if (s != ear && s != mouth) Due.lose(x, ear, s, 60);
                    x.key(s, s);
                }
                String name = ear + " hears " + mouth;
                for (int key = 0; key < 6; key++) {
                    int want = key == ear ? 1 << mouth : key == mouth ? 1 << ear : 0;
                    due.is(name + ": disturbs(" + key + ")", x.disturbs(key), want);
                    due.is(name + ": turn(" + key + ")", x.turn(key), key == Math.max(ear, mouth) ? 1 : 0);
                }
                due.is(name + ": turn(-1)", x.turn(-1), 2);
                due.is(name + ": STATIONS that no other one HEARS", x.many(10), 5);
            }
        }
    }

    /** One two of STATIONS of two NETWORKS that hear one another is enough, whichever it is. */
    private static void someStationIsEnough() {
        for (int a = 0; a < 3; a++) {
            for (int b = 3; b < 6; b++) {
                MainsLetters x = new MainsLetters();
                for (int s = 3; s < 6; s++) x.key(s, 2);
                for (int s = 0; s < 3; s++) {
                    for (int t = 3; t < 6; t++) Due.lose(x, s, t, s == a && t == b ? 30 : 60);
                }
                due.is("by " + a + " and " + b, x.disturbs(0), 4);
                due.is("by " + a + " and " + b, x.disturbs(2), 1);
                due.is("by " + a + " and " + b, x.turn(-1), 2);
                Due.lose(x, a, b, 60);
                due.is("without them", x.disturbs(0), 0);
                due.is("without them", x.turn(-1), 1);
                due.is("without them", x.turn(2), 0);
            }
        }
    }

    /** Rows of numbers in which each new number is the next one, in their order. */
    private static void rows(int[] row, int length, int numbers, List<int[]> all) {
        if (length == row.length) {
            all.add(row.clone());
            return;
        }
        for (int number = 0; number <= numbers; number++) {
            row[length] = number;
            rows(row, length + 1, Math.max(numbers, number + 1), all);
        }
    }

    private static boolean fits(int[] row, boolean[][] disturb) {
        for (int a = 0; a < 6; a++) {
            for (int b = 0; b < a; b++) {
                if (disturb[a][b] && row[a] == row[b]) return false;
            }
        }
        return true;
    }

    /** "of all such ways those with the fewest numbers; of these the first as a row (by KEYS)": all ways to disturb. */
    private static void everyWayToDisturb() {
        List<int[]> all = new ArrayList<>();
        rows(new int[6], 0, 0, all);
        boolean[][] disturb = new boolean[6][6];
        for (int graph = 0; graph < 1 << 15; graph++) {
            MainsLetters x = new MainsLetters();
            for (int s = 0; s < 6; s++) x.key(s, s);
            int place = 0;
            for (int a = 0; a < 6; a++) {
                for (int b = 0; b < a; b++, place++) {
                    disturb[a][b] = (graph >> place & 1) == 1;
                    if (!disturb[a][b]) Due.lose(x, a, b, 60);
                }
            }
            int[] best = null;
            int fewest = 7;
            for (int[] row : all) {
                int numbers = Arrays.stream(row).max().getAsInt() + 1;
                if (numbers >= fewest || !fits(row, disturb)) continue;
                best = row;
                fewest = numbers;
            }
            due.is("graph " + graph + ": turn(-1)", x.turn(-1), fewest);
            for (int key = 0; key < 6; key++) due.is("graph " + graph + ": turn(" + key + ")", x.turn(key), best[key]);
        }
    }

    /** "(by KEYS)": KEYS that no STATION has take no number and no place. */
    private static void keysBetweenThatAreNotThere() {
        MainsLetters x = new MainsLetters();
        int[] keys = {5, 5, 3, 3, 1, 1};
        for (int s = 0; s < 6; s++) x.key(s, keys[s]);
        due.is("turn(-1)", x.turn(-1), 3);
        due.is("turn(1)", x.turn(1), 0);
        due.is("turn(3)", x.turn(3), 1);
        due.is("turn(5)", x.turn(5), 2);
        for (int key = 0; key < 6; key += 2) due.is("turn(" + key + ")", x.turn(key), U);
        for (int s = 2; s < 4; s++) {
            for (int t = 4; t < 6; t++) Due.lose(x, s, t, 60);
        }
        due.is("1 and 3 apart: turn(-1)", x.turn(-1), 2);
        due.is("1 and 3 apart: turn(3)", x.turn(3), 0);
        due.is("1 and 3 apart: turn(5)", x.turn(5), 1);
    }

    /** "How many: 0 LETTERS there are, .. 10 STATIONS that no other one HEARS. OUTSIDE." */
    private static void manyFrom0To10() {
        MainsLetters x = Busy.object();
        int[] wants = {2, 1, 1, 13, 1, 1, 2, 2, 1, 2, 0};
        for (int what = 0; what <= 10; what++) due.is("busy: many(" + what + ")", x.many(what), wants[what]);
        for (int what : new int[] {Integer.MIN_VALUE, -2, -1, 11, 12, Integer.MAX_VALUE}) due.is("many(" + what + ")", x.many(what), O);
    }

    /** "8 twos of STATIONS that are HIDDEN from one another": each two once. */
    private static void hiddenTwos() {
        MainsLetters x = new MainsLetters();
        int twos = 0;
        due.is("none", x.many(8), 0);
        for (int a = 0; a < 5; a++) {
            for (int b = a + 1; b < 5; b++) {
                Due.lose(x, a, b, 60);
                twos++;
                due.is("twos", x.many(8), twos);
            }
        }
        due.is("ten at most by one that hears all", twos, 10);
        Due.deafen(x, 5);
        due.is("5 hears none", x.many(8), 0);
    }

    /** "9 NETWORKS": one at least, six at most. */
    private static void networksFrom1To6() {
        MainsLetters x = new MainsLetters();
        for (int s = 0; s < 6; s++) {
            x.key(s, 5 - s);
            int keys = 0;
            for (int t = 0; t < 6; t++) keys |= 1 << x.ofStation(t, 0);
            due.is("NETWORKS", x.many(9), Integer.bitCount(keys));
            due.is("TURNS", x.turn(-1), Integer.bitCount(keys));
        }
        due.is("six", x.many(9), 6);
        for (int s = 0; s < 6; s++) x.key(s, 3);
        due.is("one", x.many(9), 1);
    }

    /** "10 STATIONS that no other one HEARS": one that hears none may be heard. */
    private static void stationsThatNoneHears() {
        MainsLetters x = new MainsLetters();
        for (int s = 0; s < 5; s++) {
            Due.deafen(x, s);
            due.is("5 hears all, deaf are 0 to " + s, x.many(10), s < 4 ? 0 : 1);
        }
        Due.deafen(x, 5);
        due.is("all are deaf", x.many(10), 6);
        x.noise(2, 0, 0, 0);
        due.is("2 hears all others", x.many(10), 1);
        x.key(2, 1);
        due.is("KEYS do not matter", x.many(10), 1);
    }
}
