import java.util.ArrayList;
import java.util.Arrays;
import java.util.Comparator;
import java.util.List;
import java.util.TreeSet;

/** The document once more, told in another way and without a thought for speed: ModelTest sets it beside the class. */
final class Model {
    private static final int U = -1, O = -2, S = -3, N = -9;

    private final int[][][] loss = new int[6][6][8];
    private final int[][][] noise = new int[6][8][2];
    private final int[] key = new int[6];
    private int margin = 3;
    private int seed = 1;
    private final Letter[] letters = new Letter[6];
    private final int[] arrivedOf = new int[6], collidedOf = new int[6], cameTo = new int[6];
    private int slots, dropped;

    private static final class Letter {
        int to, rank, bytes, stage, count, defer, slotsToGo;
        boolean sending, spoilt;
    }

    Model() {
        for (int[][] a : loss) for (int[] b : a) Arrays.fill(b, 30);
        for (int[][] s : noise) for (int[] tone : s) Arrays.fill(tone, 10);
    }

    private static boolean in(int v, int least, int most) {
        return least <= v && v <= most;
    }

    private static boolean two(int a, int b) {
        return in(a, 0, 5) && in(b, 0, 5) && a != b;
    }

    int loss(int a, int b, int tone, int v) {
        if (!two(a, b) || !in(tone, 0, 7)) return U;
        if (!in(v, 0, 60)) return O;
        int was = loss[a][b][tone];
        loss[a][b][tone] = v;
        loss[b][a][tone] = v;
        return was;
    }

    int noise(int s, int tone, int half, int v) {
        if (!in(s, 0, 5) || !in(tone, 0, 7) || !in(half, 0, 1)) return U;
        if (!in(v, 0, 60)) return O;
        int was = noise[s][tone][half];
        noise[s][tone][half] = v;
        return was;
    }

    int margin(int v) {
        if (!in(v, 0, 12)) return O;
        int was = margin;
        margin = v;
        return was;
    }

    int key(int s, int v) {
        if (!in(s, 0, 5)) return U;
        if (!in(v, 0, 5)) return O;
        int was = key[s];
        key[s] = v;
        return was;
    }

    int bits(int a, int b, int tone, int half) {
        if (!two(a, b) || !in(tone, 0, 7) || !in(half, 0, 1)) return U;
        int level = 60 - loss[a][b][tone] - noise[b][tone][half] - margin;
        if (level >= 32) return 10;
        if (in(level, 26, 31)) return 8;
        if (in(level, 20, 25)) return 6;
        if (in(level, 14, 19)) return 4;
        if (in(level, 11, 13)) return 3;
        if (in(level, 7, 10)) return 2;
        if (in(level, 4, 6)) return 1;
        return 0;
    }

    int speed(int a, int b, int half) {
        if (!two(a, b) || !in(half, 0, 1)) return U;
        int sum = 0;
        for (int tone = 0; tone < 8; tone++) sum += bits(a, b, tone, half);
        return sum;
    }

    private boolean hears(int b, int a) {
        return a != b && speed(a, b, 0) + speed(a, b, 1) > 0;
    }

    private boolean reaches(int a, int b) {
        return a != b && key[a] == key[b] && hears(b, a);
    }

    private boolean hidden(int a, int b) {
        if (a == b || hears(a, b) || hears(b, a)) return false;
        for (int c = 0; c < 6; c++) {
            if (c != a && c != b && hears(c, a) && hears(c, b)) return true;
        }
        return false;
    }

    int who(int s, int what) {
        if (!in(s, 0, 5)) return U;
        if (!in(what, 0, 3)) return O;
        int sum = 0;
        for (int t = 0, worth = 1; t < 6; t++, worth *= 2) {
            boolean so = what == 0 ? hears(s, t) : what == 1 ? hears(t, s) : what == 2 ? reaches(s, t) : hidden(s, t);
            if (so) sum += worth;
        }
        return sum;
    }

    private int symbols(int a, int b, int n) {
        int sum = 0;
        int symbols = 0;
        while (sum < 8 * n) {
            sum += speed(a, b, symbols % 20 < 10 ? 0 : 1);
            symbols++;
        }
        return symbols;
    }

    int lasts(int a, int b, int n) {
        if (!in(a, 0, 5) || !in(b, 0, 5)) return U;
        if (!in(n, 1, 2000)) return O;
        return reaches(a, b) ? symbols(a, b, n) : N;
    }

    private static final class Row {
        final int[] stations;
        final int symbols;

        Row(int[] itsStations, int itsSymbols) {
            stations = itsStations;
            symbols = itsSymbols;
        }
    }

    private void rows(int[] row, int sum, int[][] last, int b, List<Row> found) {
        int end = row[row.length - 1];
        if (end == b) {
            found.add(new Row(row, sum));
            return;
        }
        for (int next = 0; next < 6; next++) {
            int candidate = next;
            if (last[end][next] < 0 || Arrays.stream(row).anyMatch(s -> s == candidate)) continue;
            int[] longer = Arrays.copyOf(row, row.length + 1);
            longer[row.length] = next;
            rows(longer, sum + last[end][next], last, b, found);
        }
    }

    int way(int a, int b, int n, int k) {
        if (!two(a, b)) return U;
        if (!in(n, 1, 2000) || !in(k, -2, 5)) return O;
        int[][] last = new int[6][6];
        for (int s = 0; s < 6; s++) {
            for (int t = 0; t < 6; t++) last[s][t] = reaches(s, t) ? symbols(s, t, n) : -1;
        }
        List<Row> found = new ArrayList<>();
        rows(new int[] {a}, 0, last, b, found);
        if (found.isEmpty()) return N;
        Comparator<Row> order = Comparator.comparingInt((Row r) -> r.symbols)
            .thenComparingInt(r -> r.stations.length)
            .thenComparing(r -> r.stations, Arrays::compare);
        Row best = found.stream().min(order).get();
        if (k == -2) return best.symbols;
        if (k == -1) return best.stations.length;
        return k < best.stations.length ? best.stations[k] : N;
    }

    int seed(int v) {
        int was = seed;
        seed = v;
        return was;
    }

    private void draw(Letter letter, int stage) {
        int[][] widths = {{8, 16, 32, 64}, {8, 16, 32, 64}, {8, 16, 16, 32}, {8, 16, 16, 32}};
        letter.stage = stage;
        seed = Due.seedBehind(seed);
        letter.count = Due.drawn(seed, widths[letter.rank][stage]);
        letter.defer = new int[] {0, 1, 3, 15}[stage];
    }

    int write(int a, int b, int ofClass, int bytes) {
        if (!two(a, b)) return U;
        if (!in(ofClass, 0, 3) || !in(bytes, 1, 400)) return O;
        if (letters[a] != null || !reaches(a, b)) return S;
        Letter letter = new Letter();
        letter.to = b;
        letter.rank = ofClass;
        letter.bytes = bytes;
        draw(letter, 0);
        letters[a] = letter;
        return letter.count;
    }

    int unwrite(int s) {
        if (!in(s, 0, 5)) return U;
        if (letters[s] == null || letters[s].sending) return S;
        int bytes = letters[s].bytes;
        letters[s] = null;
        return bytes;
    }

    int pass(int n) {
        if (!in(n, 1, 1000)) return O;
        boolean[][] ear = new boolean[6][6];
        for (int b = 0; b < 6; b++) {
            for (int a = 0; a < 6; a++) ear[b][a] = hears(b, a);
        }
        int before = Arrays.stream(arrivedOf).sum();
        for (int i = 0; i < n; i++) slot(ear);
        return Arrays.stream(arrivedOf).sum() - before;
    }

    private boolean held(int s, TreeSet<Integer> waiting, TreeSet<Integer> sending, boolean[][] ear) {
        for (int t : sending) if (ear[s][t]) return true;
        for (int t : waiting) if (ear[s][t] && letters[t].rank > letters[s].rank) return true;
        return false;
    }

    private void slot(boolean[][] ear) {
        slots++;
        TreeSet<Integer> waiting = new TreeSet<>(), sending = new TreeSet<>(), started = new TreeSet<>();
        for (int s = 0; s < 6; s++) {
            if (letters[s] != null) (letters[s].sending ? sending : waiting).add(s);
        }
        for (int s : waiting) {
            if (held(s, waiting, sending, ear)) continue;
            if (letters[s].count == 0) started.add(s);
            else letters[s].count--;
        }
        for (int s : new TreeSet<>(started)) {
            if (!reaches(s, letters[s].to)) {
                letters[s] = null;
                dropped++;
                started.remove(s);
                continue;
            }
            letters[s].sending = true;
            letters[s].spoilt = false;
            int symbols = symbols(s, letters[s].to, letters[s].bytes);
            letters[s].slotsToGo = symbols / 10 + (symbols % 10 > 0 ? 1 : 0);
        }
        sending.addAll(started);
        for (int s : sending) {
            for (int t : sending) {
                int to = letters[s].to;
                if (t == to || t != s && ear[to][t]) letters[s].spoilt = true;
            }
        }
        for (int s : sending) endOf(s);
        waiting.removeAll(started);
        for (int s : waiting) {
            boolean hearsStart = started.stream().anyMatch(t -> ear[s][t]);
            if (letters[s] == null || !hearsStart) continue;
            if (letters[s].defer == 0) {
                draw(letters[s], Math.min(3, letters[s].stage + 1));
            } else {
                letters[s].defer--;
                letters[s].count = Math.max(0, letters[s].count - 1);
            }
        }
    }

    private void endOf(int s) {
        Letter letter = letters[s];
        letter.slotsToGo--;
        if (letter.slotsToGo > 0) return;
        if (letter.spoilt) {
            collidedOf[s]++;
            letter.sending = false;
            draw(letter, Math.min(3, letter.stage + 1));
        } else {
            arrivedOf[s]++;
            cameTo[letter.to]++;
            letters[s] = null;
        }
    }

    int ofStation(int s, int what) {
        if (!in(s, 0, 5)) return U;
        if (!in(what, 0, 12)) return O;
        if (what == 0) return key[s];
        if (what == 10) return arrivedOf[s];
        if (what == 11) return collidedOf[s];
        if (what == 12) return cameTo[s];
        Letter letter = letters[s];
        if (letter == null) return what == 1 ? 0 : N;
        int[] waiting = {1, letter.to, letter.rank, letter.bytes, letter.stage, letter.count, letter.defer, N, N};
        int[] sending = {2, letter.to, letter.rank, letter.bytes, N, N, N, letter.slotsToGo, letter.spoilt ? 1 : 0};
        return (letter.sending ? sending : waiting)[what - 1];
    }

    int flow(int n, int window, int bad, int deaf, int itsSeed, int what) {
        if (!in(n, 1, 30) || !in(window, 1, 8) || !in(bad, 0, 9) || !in(deaf, 0, 9) || !in(what, 0, 5)) return O;
        boolean[] taken = new boolean[n], answered = new boolean[n];
        int[] told = new int[6];
        int s = itsSeed;
        while (told[5] < n && told[0] < 200) {
            told[0]++;
            List<Integer> frame = new ArrayList<>();
            for (int p = 0; p < n && frame.size() < window; p++) if (!answered[p]) frame.add(p);
            for (int p : frame) {
                told[1]++;
                s = Due.seedBehind(s);
                if (Due.drawn(s, 10) < bad) continue;
                told[taken[p] ? 2 : 4]++;
                taken[p] = true;
            }
            s = Due.seedBehind(s);
            boolean lost = Due.drawn(s, 10) < deaf;
            for (int p : frame) {
                if (lost || !taken[p]) continue;
                answered[p] = true;
                told[5]++;
            }
            int beyond = 0;
            boolean gap = false;
            for (int p = 0; p < n; p++) {
                if (!taken[p]) gap = true;
                else if (gap) beyond++;
            }
            told[3] = Math.max(told[3], beyond);
        }
        return told[what];
    }

    private boolean there(int k) {
        return Arrays.stream(key).anyMatch(other -> other == k);
    }

    private boolean disturb(int one, int other) {
        for (int a = 0; a < 6; a++) {
            for (int b = 0; b < 6; b++) {
                boolean across = key[a] == one && key[b] == other || key[a] == other && key[b] == one;
                if (one != other && across && hears(a, b)) return true;
            }
        }
        return false;
    }

    int disturbs(int k) {
        if (!in(k, 0, 5) || !there(k)) return U;
        int sum = 0;
        for (int other = 0; other < 6; other++) if (there(other) && disturb(k, other)) sum += 1 << other;
        return sum;
    }

    int turn(int k) {
        if (k != -1 && (!in(k, 0, 5) || !there(k))) return U;
        int[] keys = Arrays.stream(key).distinct().sorted().toArray();
        boolean[][] apart = new boolean[keys.length][keys.length];
        for (int i = 0; i < keys.length; i++) {
            for (int j = 0; j < keys.length; j++) apart[i][j] = disturb(keys[i], keys[j]);
        }
        int ways = (int) Math.pow(6, keys.length);
        int[] best = null;
        int fewest = 7;
        // all rows of numbers 0 .. 5 in their order; the first of the fewest different numbers stays
        for (int way = 0; way < ways; way++) {
            int[] row = new int[keys.length];
            for (int i = keys.length - 1, rest = way; i >= 0; i--, rest /= 6) row[i] = rest % 6;
            boolean fits = true;
            for (int i = 0; i < row.length; i++) {
                for (int j = 0; j < i; j++) fits &= !apart[i][j] || row[i] != row[j];
            }
            int different = (int) Arrays.stream(row).distinct().count();
            if (fits && different < fewest) {
                fewest = different;
                best = row;
            }
        }
        return k == -1 ? fewest : best[Arrays.binarySearch(keys, k)];
    }

    int many(int what) {
        int waiting = 0, sending = 0, hiddenTwos = 0, unheard = 0;
        for (int s = 0; s < 6; s++) {
            if (letters[s] != null && letters[s].sending) sending++;
            if (letters[s] != null && !letters[s].sending) waiting++;
            for (int t = 0; t < s; t++) if (hidden(s, t)) hiddenTwos++;
            if (who(s, 1) == 0) unheard++;
        }
        switch (what) {
            case 0: return waiting + sending;
            case 1: return waiting;
            case 2: return sending;
            case 3: return slots;
            case 4: return Arrays.stream(arrivedOf).sum();
            case 5: return dropped;
            case 6: return Arrays.stream(collidedOf).sum();
            case 7: return margin;
            case 8: return hiddenTwos;
            case 9: return (int) Arrays.stream(key).distinct().count();
            case 10: return unheard;
            default: return O;
        }
    }
}
