/** Promises 11 to 15: seed, write, unwrite, pass, ofStation. On a new wire 40 bytes last one slot. */
public final class ContentionTest {
    private static final int U = MainsLetters.UNKNOWN, O = MainsLetters.OUTSIDE;
    private static final int S = MainsLetters.STATE, N = MainsLetters.NONE;
    private static final int[] WRONG = {-1, Integer.MIN_VALUE, Integer.MAX_VALUE};
    private static final Due due = new Due();

    public static void main(String[] args) {
        seeds();
        writeRefused();
        othersRefused();
        takenBack();
        oneLetter();
        twoToOne();
        towardsEachOther();
        spoiltInItsLastSlot();
        hiddenOneSpoils();
        farOnesDoNotSpoil();
        heldBySending();
        heldByClass();
        notHeldUnheard();
        defers();
        stageStaysAtThree();
        widths();
        dropped();
        droppedDoesNotStart();
        sendingGoesOnAsItStarted();
        slotsOfALetter();
        emptySlots();
        due.end();
    }

    private static void told(String name, MainsLetters x, int s, int... wants) {
        for (int i = 0; i < wants.length; i++) {
            due.is(name + ": ofStation(" + s + ", " + (i + 1) + ")", x.ofStation(s, i + 1), wants[i]);
        }
    }

    private static void seeds() {
        MainsLetters x = new MainsLetters();
        due.is("seed(20)", x.seed(20), 1);
        due.is("write by seed 20", x.write(0, 1, 0, 30), Due.drawn(Due.seedBehind(20), 8));
        int next = Due.seedBehind(20);
        due.is("the seed behind a draw", x.seed(Integer.MIN_VALUE), next);
        due.is("seed(MAX)", x.seed(Integer.MAX_VALUE), Integer.MIN_VALUE);
        due.is("write by seed MAX", x.write(1, 0, 3, 1), Due.drawn(Due.seedBehind(Integer.MAX_VALUE), 8));
        due.is("seed(0)", x.seed(0), Due.seedBehind(Integer.MAX_VALUE));
        x.seed(-5);
        due.is("write by seed -5", x.write(2, 0, 3, 1), Due.drawn(Due.seedBehind(-5), 8));
    }

    private static void writeRefused() {
        MainsLetters x = new MainsLetters();
        for (int w : WRONG) {
            due.is("write, a is " + w, x.write(w, 0, 0, 1), U);
            due.is("write, b is " + w, x.write(0, w, 0, 1), U);
            due.is("write, class is " + w, x.write(0, 1, w, 1), O);
            due.is("write, bytes are " + w, x.write(0, 1, 0, w), O);
        }
        due.is("write(6, 0, 4, 0)", x.write(6, 0, 4, 0), U);
        due.is("write(0, 6, 0, 1)", x.write(0, 6, 0, 1), U);
        due.is("write(5, 5, 0, 1)", x.write(5, 5, 0, 1), U);
        due.is("write(0, 1, 4, 1)", x.write(0, 1, 4, 1), O);
        due.is("write(0, 1, 0, 0)", x.write(0, 1, 0, 0), O);
        due.is("write(0, 1, 0, 401)", x.write(0, 1, 0, 401), O);
        x.key(1, 3);
        due.is("write to another key", x.write(0, 1, 0, 1), S);
        x.key(0, 3);
        Due.lose(x, 0, 1, 60);
        due.is("write to one that does not hear", x.write(0, 1, 0, 1), S);
        due.is("write to one that does not hear, class 4", x.write(0, 1, 4, 1), O);
        due.is("refusals do not draw", x.seed(1), 1);
        told("refusals give no letter", x, 0, 0, N, N, N, N, N, N, N, N, 0, 0, 0);
        Due.lose(x, 0, 1, 30);
        int first = Due.drawn(Due.seedBehind(1), 8);
        due.is("write(0, 1, 3, 400)", x.write(0, 1, 3, 400), first);
        due.is("write again", x.write(0, 1, 3, 400), S);
        due.is("write again, 401 bytes", x.write(0, 1, 3, 401), O);
        told("written", x, 0, 1, 1, 3, 400, 0, first, 0, N, N, 0, 0, 0);
    }

    private static void othersRefused() {
        MainsLetters x = new MainsLetters();
        for (int w : WRONG) {
            due.is("unwrite(" + w + ")", x.unwrite(w), U);
            due.is("pass(" + w + ")", x.pass(w), O);
            due.is("ofStation(" + w + ", 0)", x.ofStation(w, 0), U);
            due.is("ofStation(0, " + w + ")", x.ofStation(0, w), O);
            due.is("ofStation(" + w + ", " + w + ")", x.ofStation(w, w), U);
        }
        due.is("unwrite(6)", x.unwrite(6), U);
        due.is("unwrite(5)", x.unwrite(5), S);
        due.is("pass(0)", x.pass(0), O);
        due.is("pass(1001)", x.pass(1001), O);
        due.is("ofStation(6, 0)", x.ofStation(6, 0), U);
        due.is("ofStation(0, 13)", x.ofStation(0, 13), O);
        due.is("no slot went by", x.many(3), 0);
        x.key(4, 2);
        due.is("ofStation(4, 0)", x.ofStation(4, 0), 2);
    }

    private static void takenBack() {
        MainsLetters x = new MainsLetters();
        x.seed(Due.seedThatDraws(8, 3, 8, 5, 8, 0));
        due.is("write", x.write(0, 1, 0, 77), 3);
        due.is("unwrite", x.unwrite(0), 77);
        due.is("unwrite again", x.unwrite(0), S);
        told("taken back", x, 0, 0, N, N, N, N, N, N, N, N, 0, 0, 0);
        due.is("write the next one", x.write(0, 2, 1, 41), 5);
        due.is("unwrite", x.unwrite(0), 41);
        due.is("write one that starts", x.write(0, 2, 1, 41), 0);
        x.pass(1);
        due.is("unwrite one that is sending", x.unwrite(0), S);
        due.is("it arrives", x.pass(1), 1);
        due.is("unwrite one that arrived", x.unwrite(0), S);
        due.is("none was dropped", x.many(5), 0);
    }

    private static void oneLetter() {
        MainsLetters x = new MainsLetters();
        x.seed(Due.seedThatDraws(8, 2));
        due.is("write", x.write(3, 1, 2, 41), 2);
        due.is("pass", x.pass(1), 0);
        told("count 1", x, 3, 1, 1, 2, 41, 0, 1, 0, N, N, 0, 0, 0);
        due.is("pass", x.pass(1), 0);
        told("count 0", x, 3, 1, 1, 2, 41, 0, 0, 0, N, N, 0, 0, 0);
        due.is("pass", x.pass(1), 0);
        told("sending", x, 3, 2, 1, 2, 41, N, N, N, 1, 0, 0, 0, 0);
        due.is("write while sending", x.write(3, 1, 2, 41), S);
        due.is("pass", x.pass(1), 1);
        told("arrived", x, 3, 0, N, N, N, N, N, N, N, N, 1, 0, 0);
        told("it came", x, 1, 0, N, N, N, N, N, N, N, N, 0, 0, 1);
        due.is("slots", x.many(3), 4);
        due.is("arrived", x.many(4), 1);
        due.is("nothing drawn but once", x.seed(1), Due.seedBehind(Due.seedThatDraws(8, 2)));
    }

    private static void twoToOne() {
        MainsLetters x = new MainsLetters();
        x.seed(Due.seedThatDraws(8, 0, 8, 0, 16, 3, 16, 9));
        x.write(4, 1, 0, 80);
        x.write(2, 1, 0, 40);
        due.is("both start", x.pass(1), 0);
        told("2 collided", x, 2, 1, 1, 0, 40, 1, 3, 1, N, N, 0, 1, 0);
        told("4 is spoilt", x, 4, 2, 1, 0, 80, N, N, N, 1, 1, 0, 0, 0);
        due.is("4 goes on alone", x.pass(1), 0);
        told("4 collided", x, 4, 1, 1, 0, 80, 1, 9, 1, N, N, 0, 1, 0);
        told("2 was held", x, 2, 1, 1, 0, 40, 1, 3, 1, N, N, 0, 1, 0);
        told("none came", x, 1, 0, N, N, N, N, N, N, N, N, 0, 0, 0);
        due.is("collided", x.many(6), 2);
        due.is("none arrived", x.many(4), 0);
        due.is("2 arrives", x.pass(4), 1);
    }

    private static void towardsEachOther() {
        MainsLetters x = new MainsLetters();
        x.seed(Due.seedThatDraws(8, 0, 8, 0, 16, 1, 16, 2));
        x.write(5, 0, 0, 40);
        x.write(0, 5, 0, 40);
        due.is("both start", x.pass(1), 0);
        told("0 draws first", x, 0, 1, 5, 0, 40, 1, 1, 1, N, N, 0, 1, 0);
        told("5 draws behind it", x, 5, 1, 0, 0, 40, 1, 2, 1, N, N, 0, 1, 0);

        // 3 is written to and sends itself, but hears no other one than 0, whose letter goes to it.
        MainsLetters y = new MainsLetters();
        Due.lose(y, 0, 4, 60);
        y.seed(Due.seedThatDraws(8, 0, 8, 0));
        y.write(0, 3, 0, 40);
        y.write(3, 4, 0, 40);
        due.is("the letter of 3 arrives", y.pass(1), 1);
        due.is("it came to 4", y.ofStation(4, 12), 1);
        due.is("0 collided, as 3 was sending", y.ofStation(0, 11), 1);
        due.is("3 did not collide", y.ofStation(3, 11), 0);
    }

    private static void spoiltInItsLastSlot() {
        // 0 and 1 do not hear one another; 1 starts in the last slot of 0, and 2 hears both.
        MainsLetters x = new MainsLetters();
        Due.lose(x, 0, 1, 60);
        x.seed(Due.seedThatDraws(8, 0, 8, 2));
        x.write(0, 2, 0, 120);
        x.write(1, 3, 0, 40);
        x.pass(2);
        due.is("two slots are clean", x.ofStation(0, 9), 0);
        due.is("one is to go", x.ofStation(0, 8), 1);
        due.is("none arrives", x.pass(1), 0);
        due.is("0 collided", x.ofStation(0, 11), 1);
        due.is("1 collided, as 3 hears 0", x.ofStation(1, 11), 1);
        due.is("stage of 0", x.ofStation(0, 5), 1);
    }

    private static void hiddenOneSpoils() {
        // 0 and 1 are hidden; 0 writes to 2, which hears both; 1 writes to 3, which does not hear 0.
        MainsLetters x = new MainsLetters();
        Due.lose(x, 0, 1, 60);
        Due.lose(x, 0, 3, 60);
        x.seed(Due.seedThatDraws(8, 0, 8, 1));
        x.write(0, 2, 0, 160);
        x.write(1, 3, 0, 40);
        due.is("1 is not held by 0", x.pass(2), 1);
        due.is("0 is spoilt", x.ofStation(0, 9), 1);
        x.pass(1);
        due.is("0 stays spoilt", x.ofStation(0, 9), 1);
        due.is("0 is sending", x.ofStation(0, 8), 1);
        due.is("0 does not arrive", x.pass(1), 0);
        due.is("0 collided", x.ofStation(0, 11), 1);
        due.is("letters that came to 3", x.ofStation(3, 12), 1);
    }

    private static void farOnesDoNotSpoil() {
        // 0, 1 and 2, 3 are two wires in one; both letters arrive at once.
        MainsLetters x = new MainsLetters();
        for (int a = 0; a < 2; a++) {
            for (int b = 2; b < 4; b++) Due.lose(x, a, b, 60);
        }
        x.seed(Due.seedThatDraws(8, 0, 8, 0));
        x.write(0, 1, 0, 40);
        x.write(2, 3, 3, 40);
        due.is("both arrive", x.pass(1), 2);

        // Another key's letter spoils as well: hearing is enough.
        MainsLetters y = new MainsLetters();
        y.key(2, 1);
        y.key(3, 1);
        y.seed(Due.seedThatDraws(8, 0, 8, 0));
        y.write(0, 1, 0, 40);
        y.write(2, 3, 0, 40);
        due.is("none arrives", y.pass(1), 0);
        due.is("both collided", y.many(6), 2);
    }

    private static void heldBySending() {
        MainsLetters x = new MainsLetters();
        x.seed(Due.seedThatDraws(8, 0, 8, 6, 8, 7));
        x.write(0, 1, 0, 160);
        x.pass(1);
        due.is("2 writes while 0 sends", x.write(2, 3, 3, 40), 6);
        x.key(4, 5);
        x.key(5, 5);
        due.is("4 writes while 0 sends", x.write(4, 5, 2, 40), 7);
        x.pass(3);
        told("2 was held, of a higher class", x, 2, 1, 3, 3, 40, 0, 6, 0, N, N, 0, 0, 0);
        told("4 was held, of another key", x, 4, 1, 5, 2, 40, 0, 7, 0, N, N, 0, 0, 0);
        due.is("0 arrived", x.ofStation(0, 10), 1);
        x.pass(1);
        due.is("2 counts again", x.ofStation(2, 6), 5);
        due.is("4 is held by the class of 2", x.ofStation(4, 6), 7);
    }

    private static void heldByClass() {
        MainsLetters x = new MainsLetters();
        x.seed(Due.seedThatDraws(8, 0, 8, 0, 8, 2, 8, 3));
        x.write(0, 1, 0, 40);
        x.write(2, 1, 1, 40);
        x.write(3, 1, 2, 40);
        x.write(4, 1, 2, 40);
        x.pass(1);
        due.is("class 0 is held", x.ofStation(0, 6), 0);
        due.is("class 0 waits", x.ofStation(0, 1), 1);
        due.is("class 1 is held", x.ofStation(2, 1), 1);
        due.is("class 2 counts", x.ofStation(3, 6), 1);
        due.is("class 2 counts", x.ofStation(4, 6), 2);
        // 2 hears 0 alone, as 3 and 4 are far now: 3 and 4 still hold 0
        Due.lose(x, 2, 3, 60);
        Due.lose(x, 2, 4, 60);
        Due.lose(x, 1, 2, 30);
        x.pass(1);
        due.is("class 1 is free and starts", x.ofStation(2, 10), 1);
        due.is("class 0 was held and defers", x.ofStation(0, 5), 1);
    }

    private static void notHeldUnheard() {
        MainsLetters x = new MainsLetters();
        x.seed(Due.seedThatDraws(8, 5, 8, 5, 8, 5));
        x.write(0, 1, 0, 40);
        x.write(2, 1, 3, 40);
        Due.disturb(x, 0, 0, 60);
        x.pass(1);
        due.is("heard in half 1: held", x.ofStation(0, 6), 5);
        Due.disturb(x, 0, 1, 60);
        x.pass(1);
        due.is("not heard: not held", x.ofStation(0, 6), 4);
        due.is("the higher class counts all the time", x.ofStation(2, 6), 3);
    }

    private static void defers() {
        MainsLetters x = new MainsLetters();
        // 5 waits; others start before it, one behind the other
        x.seed(Due.seedThatDraws(8, 7, 8, 0, 16, 10));
        x.write(5, 4, 0, 40);
        x.write(0, 1, 0, 40);
        due.is("0 arrives", x.pass(1), 1);
        told("5 had no defer: a stage more, a draw", x, 5, 1, 4, 0, 40, 1, 10, 1, N, N, 0, 0, 0);
        x.seed(Due.seedThatDraws(8, 0));
        x.write(0, 1, 0, 40);
        due.is("0 arrives again", x.pass(1), 1);
        told("5 counts, and once more by its defer", x, 5, 1, 4, 0, 40, 1, 8, 0, N, N, 0, 0, 0);
        x.seed(Due.seedThatDraws(8, 1, 32, 20));
        x.write(0, 1, 1, 80);
        x.pass(1);
        told("5 is held by class", x, 5, 1, 4, 0, 40, 1, 8, 0, N, N, 0, 0, 0);
        x.pass(1);
        told("5 was held by class and defers: a draw by 32", x, 5, 1, 4, 0, 40, 2, 20, 3, N, N, 0, 0, 0);
        x.pass(1);
        told("5 is held by sending, and does not defer", x, 5, 1, 4, 0, 40, 2, 20, 3, N, N, 0, 0, 0);

        // A count of 1 becomes 0 by a defer: 1 is held by class, its defer is 1.
        MainsLetters z = new MainsLetters();
        z.seed(Due.seedThatDraws(8, 0, 8, 0, 16, 15, 16, 1));
        z.write(0, 2, 0, 40);
        z.write(1, 2, 0, 40);
        z.pass(1);
        z.seed(Due.seedThatDraws(8, 0));
        z.write(3, 4, 1, 40);
        z.pass(1);
        due.is("count by a defer while held", z.ofStation(1, 6), 0);
        due.is("count by a defer while held", z.ofStation(0, 6), 14);

        // A count of 0 stays 0 by a defer: 1 is held, its count is 0, it has a defer of 1.
        MainsLetters y = new MainsLetters();
        y.seed(Due.seedThatDraws(8, 0, 8, 0, 16, 0, 16, 0));
        y.write(0, 2, 0, 40);
        y.write(1, 2, 0, 40);
        y.pass(1);
        y.seed(Due.seedThatDraws(8, 0));
        due.is("0 takes its letter back", y.unwrite(0), 40);
        due.is("3 writes", y.write(3, 4, 3, 40), 0);
        due.is("3 arrives", y.pass(1), 1);
        told("1 defers at count 0", y, 1, 1, 2, 0, 40, 1, 0, 0, N, N, 0, 1, 0);
        due.is("then 1 starts and arrives", y.pass(1), 1);
    }

    private static void stageStaysAtThree() {
        MainsLetters x = new MainsLetters();
        int[] full = {0, 1, 3, 15};
        int[] width = {8, 16, 32, 64};
        int seed = Due.seedThatDraws(8, 0);
        x.write(5, 4, 0, 40);
        for (int round = 0; round < 45; round++) {
            int stage = x.ofStation(5, 5);
            int defer = x.ofStation(5, 7);
            int count = x.ofStation(5, 6);
            x.seed(seed);
            x.write(0, 1, 3, 40);
            x.pass(1);
            boolean over = defer == 0;
            int next = Math.min(3, stage + 1);
            due.is("stage", x.ofStation(5, 5), over ? next : stage);
            due.is("defer", x.ofStation(5, 7), over ? full[next] : defer - 1);
            int drawn = Due.drawn(Due.seedBehind(Due.seedBehind(seed)), width[next]);
            due.is("count", x.ofStation(5, 6), over ? drawn : Math.max(0, count - 1));
        }
        due.is("the last stage", x.ofStation(5, 5), 3);
    }

    /** Two letters of a class collide until both are at the last stage; each count is by its width. */
    private static void widths() {
        int[][] all = {{8, 16, 32, 64}, {8, 16, 32, 64}, {8, 16, 16, 32}, {8, 16, 16, 32}};
        int[] defer = {0, 1, 3, 15};
        for (int ofClass = 0; ofClass < 4; ofClass++) {
            int[] width = all[ofClass];
            MainsLetters x = new MainsLetters();
            // 1 and 2 are hidden from one another, so none defers; they write to 0 and collide, slot by slot
            Due.lose(x, 1, 2, 60);
            x.seed(Due.seedThatDraws(8, 0, 8, 0));
            x.write(1, 0, ofClass, 40);
            x.write(2, 0, ofClass, 40);
            for (int stage = 1; stage <= 5; stage++) {
                int at = Math.min(stage, 3);
                int seed = Due.seedThatDraws(width[at], width[at] - 1, width[at], width[at] - 1);
                x.seed(seed);
                due.is("both collide", x.pass(1), 0);
                String name = "class " + ofClass + ", stage " + at;
                told(name, x, 1, 1, 0, ofClass, 40, at, width[at] - 1, defer[at], N, N, 0, stage, 0);
                told(name, x, 2, 1, 0, ofClass, 40, at, width[at] - 1, defer[at], N, N, 0, stage, 0);
                x.pass(width[at] - 1);
                due.is(name + ": counted to 0", x.ofStation(1, 6), 0);
            }
        }
    }

    private static void dropped() {
        MainsLetters x = new MainsLetters();
        x.seed(Due.seedThatDraws(8, 1, 8, 0));
        x.write(0, 1, 0, 40);
        x.key(1, 3);
        due.is("it waits yet", x.pass(1), 0);
        due.is("it waits yet", x.ofStation(0, 1), 1);
        due.is("it is dropped as it would start", x.pass(1), 0);
        told("dropped", x, 0, 0, N, N, N, N, N, N, N, N, 0, 0, 0);
        due.is("many(5)", x.many(5), 1);
        due.is("many(0)", x.many(0), 0);
        x.key(1, 0);
        x.write(0, 1, 0, 40);
        Due.disturb(x, 1, 0, 60);
        Due.disturb(x, 1, 1, 60);
        x.pass(1);
        due.is("not heard any more: dropped", x.many(5), 2);
        due.is("none arrived", x.many(4), 0);
        due.is("none collided", x.many(6), 0);
    }

    private static void droppedDoesNotStart() {
        MainsLetters x = new MainsLetters();
        x.seed(Due.seedThatDraws(8, 0, 8, 4, 8, 0));
        x.write(0, 1, 0, 40);
        x.write(2, 3, 0, 40);
        x.write(4, 5, 0, 40);
        x.key(1, 2);
        due.is("4 arrives: the one that was dropped does not spoil", x.pass(1), 1);
        due.is("dropped", x.many(5), 1);

        MainsLetters y = new MainsLetters();
        y.seed(Due.seedThatDraws(8, 0, 8, 4));
        y.write(0, 1, 0, 40);
        y.write(2, 3, 0, 40);
        y.key(1, 2);
        y.pass(1);
        told("none defers for the one that was dropped", y, 2, 1, 3, 0, 40, 0, 3, 0, N, N, 0, 0, 0);
        due.is("no draw", y.seed(1), Due.seedBehind(Due.seedBehind(Due.seedThatDraws(8, 0, 8, 4))));
    }

    private static void sendingGoesOnAsItStarted() {
        MainsLetters x = new MainsLetters();
        x.seed(Due.seedThatDraws(8, 0));
        x.write(0, 1, 0, 400);
        x.pass(1);
        due.is("10 slots", x.ofStation(0, 8), 9);
        x.margin(12);
        x.key(1, 4);
        Due.lose(x, 0, 1, 60);
        due.is("as long as it was", x.ofStation(0, 8), 9);
        due.is("not yet", x.pass(8), 0);
        due.is("it arrives", x.pass(1), 1);
        due.is("it came", x.ofStation(1, 12), 1);
    }

    private static void slotsOfALetter() {
        int[][] bytesAndSlots = {{1, 1}, {40, 1}, {41, 2}, {80, 2}, {81, 3}, {400, 10}};
        for (int[] two : bytesAndSlots) {
            MainsLetters x = new MainsLetters();
            x.seed(Due.seedThatDraws(8, 0));
            x.write(2, 5, 1, two[0]);
            if (two[1] > 1) due.is(two[0] + " bytes: not yet", x.pass(two[1] - 1), 0);
            due.is(two[0] + " bytes", x.pass(1), 1);
        }
        MainsLetters x = new MainsLetters();
        Due.disturb(x, 5, 0, 60);
        x.seed(Due.seedThatDraws(8, 0));
        x.write(2, 5, 1, 41);
        x.pass(1);
        due.is("31 symbols are 4 slots", x.ofStation(2, 8), 3);
    }

    private static void emptySlots() {
        MainsLetters x = new MainsLetters();
        due.is("pass(1000)", x.pass(1000), 0);
        due.is("pass(1)", x.pass(1), 0);
        due.is("many(3)", x.many(3), 1001);
        x.seed(Due.seedThatDraws(8, 3));
        x.write(0, 1, 0, 1);
        due.is("pass(1000) with one letter", x.pass(1000), 1);
        due.is("many(3)", x.many(3), 2001);
    }
}
