import java.util.ArrayList;
import java.util.List;

/**
 * "REFUSALS: of a call's line the first that fits is answered, in the order told there: UNKNOWN, OUTSIDE, STATE; they
 * change nothing." Each range of each call at both ends, each mixture of wrong numbers, and what is left behind it.
 */
public final class RefusalsTest {
    private static final int U = MainsLetters.UNKNOWN, O = MainsLetters.OUTSIDE, S = MainsLetters.STATE;
    private static final int FREE = 0;
    private static final Due due = new Due();

    /** A number of a call: what is answered if it is wrong, its range, and one that is let be. */
    private static final class Range {
        final int refusal, least, most, good;

        Range(int itsRefusal, int itsLeast, int itsMost, int itsGood) {
            refusal = itsRefusal;
            least = itsLeast;
            most = itsMost;
            good = itsGood;
        }

        boolean has(int number) {
            return refusal == FREE || number >= least && number <= most;
        }
    }

    /** A call's line; its first two numbers may be STATIONS that must be two, which is refused as UNKNOWN. */
    private static final class Line {
        final String name;
        final boolean twoStations;
        final Range[] ranges;

        Line(String itsName, boolean areTwo, Range... itsRanges) {
            name = itsName;
            twoStations = areTwo;
            ranges = itsRanges;
        }

        int[] good() {
            int[] v = new int[ranges.length];
            for (int i = 0; i < v.length; i++) v[i] = ranges[i].good;
            return v;
        }

        /** UNKNOWN, if a number of that kind is wrong; else OUTSIDE, if one of that kind is; else FREE. */
        int refusalOf(int[] v) {
            if (twoStations && v[0] == v[1]) return U;
            for (int refusal : new int[] {U, O}) {
                for (int i = 0; i < v.length; i++) {
                    if (ranges[i].refusal == refusal && !ranges[i].has(v[i])) return refusal;
                }
            }
            return FREE;
        }
    }

    private static Range station(int good) {
        return new Range(U, 0, 5, good);
    }

    private static Range unknown(int least, int most, int good) {
        return new Range(U, least, most, good);
    }

    private static Range outside(int least, int most, int good) {
        return new Range(O, least, most, good);
    }

    private static final Line[] LINES = {
        new Line("loss", true, station(2), station(4), unknown(0, 7, 3), outside(0, 60, 20)),
        new Line("noise", false, station(1), unknown(0, 7, 5), unknown(0, 1, 1), outside(0, 60, 7)),
        new Line("margin", false, outside(0, 12, 4)),
        new Line("key", false, station(3), outside(0, 5, 1)),
        new Line("bits", true, station(5), station(0), unknown(0, 7, 6), unknown(0, 1, 0)),
        new Line("speed", true, station(1), station(2), unknown(0, 1, 1)),
        new Line("who", false, station(4), outside(0, 3, 2)),
        new Line("lasts", false, station(0), station(2), outside(1, 2000, 60)),
        new Line("way", true, station(0), station(5), outside(1, 2000, 60), outside(-2, 5, 0)),
        new Line("write", true, station(5), station(0), outside(0, 3, 1), outside(1, 400, 9)),
        new Line("unwrite", false, station(0)),
        new Line("pass", false, outside(1, 1000, 2)),
        new Line("ofStation", false, station(1), outside(0, 12, 8)),
        new Line("flow", false, outside(1, 30, 6), outside(1, 8, 3), outside(0, 9, 2), outside(0, 9, 1),
            new Range(FREE, 0, 0, -77), outside(0, 5, 3)),
        new Line("disturbs", false, unknown(0, 5, 2)),
        new Line("turn", false, unknown(-1, 5, 2)),
        new Line("many", false, outside(0, 10, 6)),
    };

    public static void main(String[] args) {
        busyIsAsItSays();
        for (Line line : LINES) {
            eachEnd(line);
            theFirstThatFits(line);
            theyChangeNothing(line);
        }
        oneStationTwice();
        stateGoesLast();
        stateChangesNothing();
        keysThatNoStationHas();
        seedIsNeverRefused();
        askingChangesNothing();
        due.end();
    }

    private static void busyIsAsItSays() {
        MainsLetters x = Busy.object();
        int[] many = {2, 1, 1, 13, 1, 1, 2, 2};
        for (int what = 0; what < many.length; what++) due.is("busy: many(" + what + ")", x.many(what), many[what]);
        int[][] stations = {{1, 2, 0, 100, 1, 7, 0, -9, -9}, {2, 2, 0, 400, -9, -9, -9, 9, 0}};
        for (int s = 0; s < 2; s++) {
            for (int i = 0; i < 9; i++) due.is("busy: ofStation(" + s + ", " + (i + 1) + ")", x.ofStation(s, i + 1), stations[s][i]);
        }
        due.is("busy: KEY of 3", x.ofStation(3, 0), 2);
        due.is("busy: 4 and 5 do not hear one another", x.who(4, 0) >> 5 & 1 | x.who(5, 0) >> 4 & 1, 0);
    }

    /** The last number that is let be and the first one that is not, at both ends, and the ends of int. */
    private static void eachEnd(Line line) {
        MainsLetters x = Busy.object();
        for (int i = 0; i < line.ranges.length; i++) {
            Range range = line.ranges[i];
            int[] numbers = {range.least - 1, range.least, range.most, range.most + 1, Integer.MIN_VALUE, Integer.MAX_VALUE};
            for (int number : numbers) {
                int[] v = line.good();
                v[i] = number;
                if (line.twoStations && v[0] == v[1]) continue;
                Call call = new Call(line.name, v);
                int got = call.on(line.name.equals("write") ? Busy.object() : x);
                if (!range.has(number)) due.is(call.told(), got, range.refusal);
                else due.holds(call.told() + " answered " + got + " and is let be", isLetBe(line, v, got));
            }
        }
    }

    /** Of disturbs and turn a KEY may be UNKNOWN within its range, as no STATION has it. */
    private static boolean isLetBe(Line line, int[] v, int got) {
        boolean ofKey = line.name.equals("disturbs") || line.name.equals("turn");
        if (ofKey && v[0] != -1 && v[0] != 0 && v[0] != 2) return got == U;
        return got != U && got != O;
    }

    /** Each number as it may be, too small, or too large, with each other one so: all mixtures. */
    private static List<int[]> mixtures(Line line) {
        List<int[]> all = new ArrayList<>();
        int many = 1;
        for (int i = 0; i < line.ranges.length; i++) many *= 3;
        for (int mixture = 1; mixture < many; mixture++) {
            int[] v = line.good();
            int rest = mixture;
            for (int i = 0; i < v.length; i++, rest /= 3) {
                if (rest % 3 == 1) v[i] = line.ranges[i].least - 1;
                if (rest % 3 == 2) v[i] = line.ranges[i].most + 1;
            }
            if (line.refusalOf(v) != FREE) all.add(v);
        }
        return all;
    }

    private static void theFirstThatFits(Line line) {
        MainsLetters x = null;
        int calls = 0;
        for (int[] v : mixtures(line)) {
            if (calls++ % 300 == 0) x = Busy.object();
            Call call = new Call(line.name, v);
            due.is(call.told(), call.on(x), line.refusalOf(v));
        }
    }

    private static void theyChangeNothing(Line line) {
        List<int[]> all = mixtures(line);
        for (int from = 0; from < all.size(); from += 80) {
            MainsLetters x = Busy.object();
            for (int[] v : all.subList(from, Math.min(all.size(), from + 80))) new Call(line.name, v).on(x);
            Busy.alike(due, "refused " + line.name, x, Busy.object());
        }
    }

    /** "STATIONS (they are one: so, too)": ahead of all that is OUTSIDE, for each STATION; but not of lasts. */
    private static void oneStationTwice() {
        MainsLetters x = Busy.object();
        for (int s = 0; s < 6; s++) {
            for (int off = 0; off < 2; off++) {
                Call[] calls = {
                    new Call("loss", s, s, 0, 61 * off), new Call("bits", s, s, 7 + off, 1), new Call("speed", s, s, off),
                    new Call("way", s, s, 1 - off, 0), new Call("way", s, s, 1, 5 + off), new Call("write", s, s, 3 + off, 1),
                    new Call("write", s, s, 3, 400 + off)};
                for (Call call : calls) due.is(call.told(), call.on(x), U);
            }
            due.is("lasts(" + s + ", " + s + ", 1)", x.lasts(s, s, 1), MainsLetters.NONE);
            due.is("lasts(" + s + ", " + s + ", 2000)", x.lasts(s, s, 2000), MainsLetters.NONE);
            due.is("lasts(" + s + ", " + s + ", 0)", x.lasts(s, s, 0), O);
            due.is("lasts(" + s + ", " + s + ", 2001)", x.lasts(s, s, 2001), O);
        }
        Busy.alike(due, "one STATION twice", x, Busy.object());
    }

    /** 0 is WAITING, 1 is SENDING, 2 does not reach 3 (its KEY) nor 5 (which does not hear it). */
    private static final int[][] WITH_STATE = {{0, 4}, {1, 4}, {0, 3}, {2, 3}, {3, 2}, {2, 5}};

    private static void stateGoesLast() {
        MainsLetters x = Busy.object();
        due.is("2 hears 5", x.who(2, 0) >> 5 & 1, 1);
        due.is("5 does not hear 2", x.who(2, 1) >> 5 & 1, 0);
        for (int[] two : WITH_STATE) {
            for (int ofClass = -1; ofClass <= 4; ofClass++) {
                for (int bytes : new int[] {0, 1, 400, 401}) {
                    boolean off = ofClass < 0 || ofClass > 3 || bytes < 1 || bytes > 400;
                    Call call = new Call("write", two[0], two[1], ofClass, bytes);
                    due.is(call.told(), call.on(x), off ? O : S);
                }
            }
        }
        due.is("write(0, 0, 4, 0) by one that has a LETTER", x.write(0, 0, 4, 0), U);
        due.is("write(0, 6, 0, 1) by one that has a LETTER", x.write(0, 6, 0, 1), U);
        due.is("write(5, 2, 0, 1) the other way is let be", x.write(5, 2, 0, 1) >= 0 ? 1 : 0, 1);
        MainsLetters y = Busy.object();
        due.is("unwrite(1), it is SENDING", y.unwrite(1), S);
        for (int s = 2; s < 6; s++) due.is("unwrite(" + s + "), it has none", y.unwrite(s), S);
        due.is("unwrite(-1)", y.unwrite(-1), U);
        due.is("unwrite(6)", y.unwrite(6), U);
        due.is("unwrite(0)", y.unwrite(0), 100);
        due.is("unwrite(0) again", y.unwrite(0), S);
    }

    private static void stateChangesNothing() {
        MainsLetters x = Busy.object();
        for (int[] two : WITH_STATE) x.write(two[0], two[1], 3, 1);
        for (int s = 1; s < 6; s++) x.unwrite(s);
        Busy.alike(due, "STATE", x, Busy.object());
    }

    /** "KEY (no STATION has it: so, too)": also one that some STATION had. */
    private static void keysThatNoStationHas() {
        MainsLetters x = new MainsLetters();
        for (int key = 1; key < 6; key++) {
            due.is("disturbs(" + key + ")", x.disturbs(key), U);
            due.is("turn(" + key + ")", x.turn(key), U);
            x.key(5, key);
            due.is("disturbs(" + key + "), 5 has it", x.disturbs(key), 1);
            due.is("turn(" + key + "), 5 has it", x.turn(key), 1);
            x.key(5, 0);
            due.is("disturbs(" + key + "), 5 had it", x.disturbs(key), U);
            due.is("turn(" + key + "), 5 had it", x.turn(key), U);
        }
        for (int s = 0; s < 5; s++) x.key(s, 5);
        due.is("disturbs(0), 5 has it", x.disturbs(0), 32);
        due.is("turn(0), 5 has it", x.turn(0), 0);
        x.key(5, 5);
        due.is("disturbs(0), none has it", x.disturbs(0), U);
        due.is("turn(0), none has it", x.turn(0), U);
        due.is("turn(-1), one is there", x.turn(-1), 1);
    }

    /** SEED has no range: what would be a refusal elsewhere is a number here. */
    private static void seedIsNeverRefused() {
        MainsLetters x = new MainsLetters();
        int was = 1;
        for (int v : new int[] {0, -1, -2, -3, -9, Integer.MIN_VALUE, Integer.MAX_VALUE, 1}) {
            due.is("seed(" + v + ")", x.seed(v), was);
            was = v;
        }
    }

    private static void askingChangesNothing() {
        MainsLetters x = Busy.object();
        for (Line line : LINES) {
            boolean asks = !"loss noise margin key write unwrite pass".contains(line.name);
            if (asks) new Call(line.name, line.good()).on(x);
        }
        for (int what = 0; what <= 5; what++) x.flow(30, 8, 9, 9, 1, what);
        for (int k = -2; k <= 5; k++) x.way(4, 5, 2000, k);
        Busy.alike(due, "asked", x, Busy.object());
    }
}
