/**
 * The SLOTS of part 3 at their edges, step by step; each test bears the document's words that it is of. On a new wire
 * 40 BYTES last one SLOT; far() parts two STATIONS.
 */
public final class SlotsEdgesTest {
    private static final int O = MainsLetters.OUTSIDE, S = MainsLetters.STATE, N = MainsLetters.NONE;
    private static final Due due = new Due();

    public static void main(String[] args) {
        passFrom1To1000();
        manySlotsAreSlotsOneByOne();
        countsToZeroThenStarts();
        heldBySendingOfAnyClass();
        heldInTheLastSlotOfSending();
        heldByHearingNotByBeingHeard();
        heldByHigherClassAlone();
        heldByOneThatStartsOrIsDroppedNow();
        notHeldByOneThatStartsNow();
        heldByOneThatCollided();
        droppedAsItWouldStart();
        droppedByHearing();
        heldOnesAreNotDropped();
        onlyOneDropped();
        slotsByTenSymbols();
        lengthIsByTheStart();
        spoiltByTheOneWrittenTo();
        spoiltByAnotherOne();
        spoiltByHearingAlone();
        spoiltInAnySlot();
        notSpoiltByTheSlotBefore();
        spoiltByAChangeOnTheWay();
        drawsByNumbers();
        collisionsDrawAheadOfDefers();
        defersOnce();
        defersByStartsThatEnded();
        sendingDoesNotDefer();
        startersDoNotDefer();
        countAbove0();
        defersByHearing();
        letterKeptToDefer();
        threeArriveAtOnce();
        due.end();
    }

    private static void far(MainsLetters x, int... twos) {
        for (int two : twos) Due.lose(x, two / 10, two % 10, 60);
    }

    /** Writes LETTERS of 40 BYTES one behind the other, whose COUNTS are as told: from, to, CLASS, COUNT. */
    private static void write(MainsLetters x, int[]... letters) {
        for (int[] letter : letters) {
            x.seed(Due.seedThatDraws(8, letter[3]));
            int bytes = letter.length > 4 ? letter[4] : 40;
            due.is("COUNT of " + letter[0], x.write(letter[0], letter[1], letter[2], bytes), letter[3]);
        }
    }

    private static int[] letter(int... numbers) {
        return numbers;
    }

    /** "n SLOTS (1 .. 1000) go by: how many LETTERS ARRIVED in them." */
    private static void passFrom1To1000() {
        MainsLetters x = new MainsLetters();
        int went = 0;
        for (int n : new int[] {0, 1, 1000, 1001, -1, Integer.MIN_VALUE, Integer.MAX_VALUE}) {
            boolean letBe = n == 1 || n == 1000;
            write(x, letter(0, 1, 0, 0));
            due.is("pass(" + n + ")", x.pass(n), letBe ? 1 : O);
            if (letBe) went += n;
            due.is("SLOTS that went by", x.many(3), went);
            due.is("0 has a LETTER", x.ofStation(0, 1), letBe ? 0 : 1);
            if (!letBe) x.unwrite(0);
        }
        due.is("none arrives twice", x.pass(1000), 0);
        due.is("ARRIVED in all", x.many(4), 2);
    }

    private static MainsLetters crowd() {
        MainsLetters x = new MainsLetters();
        far(x, 1, 23, 45, 14);
        for (int s = 0; s < 6; s++) x.write(s, (s + 2) % 6, s % 4, 40 + 60 * s);
        return x;
    }

    private static void manySlotsAreSlotsOneByOne() {
        for (int n = 1; n <= 200; n += 7) {
            MainsLetters x = crowd();
            MainsLetters y = crowd();
            int sum = 0;
            for (int i = 0; i < n; i++) sum += y.pass(1);
            due.is("pass(" + n + ")", x.pass(n), sum);
            for (int s = 0; s < 6; s++) {
                for (int what = 1; what <= 12; what++) due.is("behind " + n, x.ofStation(s, what), y.ofStation(s, what));
            }
            due.is("SEED behind " + n, x.seed(1), y.seed(1));
        }
    }

    /** "if its COUNT is 0, it STARTS; else COUNT is 1 less": for each COUNT that WIDTH 8 leaves. */
    private static void countsToZeroThenStarts() {
        for (int count = 0; count < 8; count++) {
            MainsLetters x = new MainsLetters();
            write(x, letter(2, 3, 1, count, 80));
            for (int left = count - 1; left >= 0; left--) {
                x.pass(1);
                due.told("COUNT was " + (left + 1), x, 2, 1, 3, 1, 80, 0, left, 0, N, N);
            }
            x.pass(1);
            due.told("COUNT was 0", x, 2, 2, 3, 1, 80, N, N, N, 1, 0);
        }
    }

    /** "HEARS a STATION that is SENDING ahead of the SLOT": of a lower, the same, a higher CLASS, or of another KEY. */
    private static void heldBySendingOfAnyClass() {
        for (int sending = 0; sending < 4; sending++) {
            for (int waiting = 0; waiting < 4; waiting++) {
                MainsLetters x = new MainsLetters();
                write(x, letter(0, 1, sending, 0, 160));
                x.pass(1);
                if (waiting % 2 == 0) x.key(2, 5);
                if (waiting % 2 == 0) x.key(3, 5);
                write(x, letter(2, 3, waiting, 0));
                x.pass(1);
                due.told("CLASS " + waiting + " by " + sending, x, 2, 1, 3, waiting, 40, 0, 0, 0, N, N);
            }
        }
    }

    /** "SENDING ahead of the SLOT": in its last SLOT yet, and not in the next one. */
    private static void heldInTheLastSlotOfSending() {
        MainsLetters x = new MainsLetters();
        write(x, letter(0, 1, 0, 0, 80));
        x.pass(1);
        write(x, letter(2, 3, 3, 1));
        due.is("the last SLOT of 0", x.pass(1), 1);
        due.is("2 was HELD in it", x.ofStation(2, 6), 1);
        x.pass(1);
        due.is("2 counts", x.ofStation(2, 6), 0);
        due.is("2 starts and arrives", x.pass(1), 1);
    }

    /** "if it HEARS": to be heard by the one that is SENDING or WAITING does not hold. */
    private static void heldByHearingNotByBeingHeard() {
        MainsLetters x = new MainsLetters();
        Due.deafen(x, 2);
        write(x, letter(0, 1, 3, 0, 400));
        x.pass(1);
        write(x, letter(2, 3, 0, 4));
        x.pass(1);
        due.is("2 does not hear 0, which hears it", x.ofStation(2, 6), 3);
        MainsLetters y = new MainsLetters();
        Due.deafen(y, 2);
        write(y, letter(0, 1, 3, 4), letter(2, 3, 0, 4));
        y.pass(1);
        due.is("2 does not hear 0, of a higher CLASS", y.ofStation(2, 6), 3);
        MainsLetters z = new MainsLetters();
        Due.deafen(z, 2);
        write(z, letter(2, 3, 3, 4), letter(0, 1, 0, 4));
        z.pass(1);
        due.is("0 hears 2, of a higher CLASS, which does not hear it", z.ofStation(0, 6), 4);
    }

    /** "another one that was WAITING ahead of the SLOT, with a LETTER of a higher CLASS": not of the same or a lower one. */
    private static void heldByHigherClassAlone() {
        for (int one = 0; one < 4; one++) {
            for (int other = 0; other < 4; other++) {
                MainsLetters x = new MainsLetters();
                write(x, letter(4, 5, one, 3), letter(1, 5, other, 5));
                x.pass(1);
                due.is("COUNT of CLASS " + one + " by " + other, x.ofStation(4, 6), other > one ? 3 : 2);
                due.is("COUNT of CLASS " + other + " by " + one, x.ofStation(1, 6), one > other ? 5 : 4);
            }
        }
    }

    /** "was WAITING ahead of the SLOT": one that starts in it, or is DROPPED in it, holds yet. */
    private static void heldByOneThatStartsOrIsDroppedNow() {
        MainsLetters x = new MainsLetters();
        write(x, letter(0, 1, 1, 0), letter(5, 4, 0, 0));
        due.is("0 starts, 5 is HELD", x.pass(1), 1);
        due.is("5 did not start", x.ofStation(5, 11), 0);
        due.is("5 is WAITING", x.ofStation(5, 1), 1);
        MainsLetters y = new MainsLetters();
        write(y, letter(0, 1, 1, 0), letter(5, 4, 0, 2));
        y.key(1, 3);
        y.pass(1);
        due.is("0 is DROPPED", y.many(5), 1);
        due.told("5 was HELD", y, 5, 1, 4, 0, 40, 0, 2, 0, N, N);
        y.pass(1);
        due.is("5 counts", y.ofStation(5, 6), 1);
    }

    /** "SENDING ahead of the SLOT": one that starts in it holds none in it, so both start. */
    private static void notHeldByOneThatStartsNow() {
        MainsLetters x = new MainsLetters();
        write(x, letter(0, 1, 2, 0), letter(5, 4, 2, 0), letter(3, 4, 2, 0));
        due.is("three start", x.pass(1), 0);
        due.is("three collided", x.many(6), 3);
    }

    /** One that has COLLIDED is WAITING again, and holds by its CLASS from the next SLOT on. */
    private static void heldByOneThatCollided() {
        MainsLetters x = new MainsLetters();
        far(x, 1, 2, 3);
        write(x, letter(4, 5, 1, 0), letter(0, 5, 1, 0), letter(1, 2, 0, 7));
        x.seed(Due.seedThatDraws(16, 5, 16, 5));
        x.pass(1);
        due.is("0 and 4 collided", x.many(6), 2);
        due.is("1 was HELD by 4, and heard it start", x.ofStation(1, 5), 1);
        int count = x.ofStation(1, 6);
        x.pass(1);
        due.is("4 is WAITING and holds 1", x.ofStation(1, 6), count);
        x.unwrite(4);
        x.pass(1);
        due.is("0 is not heard by 1", x.ofStation(1, 6), count - 1);
    }

    /** "if it does not REACH the one to whom it writes any more, its LETTER is DROPPED": as it would start, not before. */
    private static void droppedAsItWouldStart() {
        MainsLetters x = new MainsLetters();
        write(x, letter(0, 1, 0, 2));
        x.key(1, 4);
        x.pass(2);
        due.told("WAITING yet", x, 0, 1, 1, 0, 40, 0, 0, 0, N, N);
        due.is("none arrived", x.pass(1), 0);
        due.told("DROPPED", x, 0, 0, N, N, N, N, N, N, N, N, 0, 0, 0);
        due.is("many DROPPED", x.many(5), 1);
        due.is("no LETTER", x.many(0), 0);
        x.pass(5);
        due.is("DROPPED once", x.many(5), 1);
        write(x, letter(0, 2, 0, 1));
        x.key(0, 3);
        x.pass(1);
        x.key(0, 0);
        due.is("it reaches again, as it starts", x.pass(1), 1);
        due.is("not DROPPED", x.many(5), 1);
        due.is("both may have another KEY", reachesByAnotherKey(), 1);
    }

    private static int reachesByAnotherKey() {
        MainsLetters x = new MainsLetters();
        write(x, letter(0, 1, 0, 0));
        x.key(0, 5);
        x.key(1, 5);
        return x.pass(1);
    }

    private static void droppedByHearing() {
        MainsLetters x = new MainsLetters();
        write(x, letter(0, 1, 0, 0));
        Due.deafen(x, 1);
        x.noise(1, 2, 1, 24);
        due.is("1 hears no bit", x.pass(1), 0);
        due.is("DROPPED", x.many(5), 1);
        x.noise(1, 2, 1, 23);
        write(x, letter(0, 1, 0, 0));
        x.pass(1);
        due.is("one bit is enough, 320 in HALF 1 alone: 640 symbols", x.ofStation(0, 8), 63);
        due.is("not DROPPED", x.many(5), 1);
        MainsLetters y = new MainsLetters();
        write(y, letter(0, 1, 0, 0));
        Due.deafen(y, 0);
        due.is("0 itself need not hear", y.pass(1), 1);
    }

    /** Those that are HELD do not START, so they are not DROPPED, even at COUNT 0. */
    private static void heldOnesAreNotDropped() {
        MainsLetters x = new MainsLetters();
        write(x, letter(0, 1, 0, 0), letter(2, 3, 1, 3));
        x.key(0, 1);
        x.pass(3);
        due.told("HELD at COUNT 0", x, 0, 1, 1, 0, 40, 0, 0, 0, N, N);
        due.is("none DROPPED", x.many(5), 0);
        due.is("2 starts", x.pass(1), 1);
        due.is("0 defers", x.ofStation(0, 5), 1);
        due.is("none DROPPED", x.many(5), 0);
    }

    /** "it does not count as one that STARTS": it spoils none, and none defers by it. */
    private static void onlyOneDropped() {
        MainsLetters x = new MainsLetters();
        write(x, letter(0, 1, 0, 0), letter(4, 5, 0, 0), letter(2, 3, 0, 6));
        x.key(0, 1);
        due.is("4 arrives beside it", x.pass(1), 1);
        due.is("2 defers by 4", x.ofStation(2, 5), 1);
        MainsLetters y = new MainsLetters();
        write(y, letter(0, 1, 0, 0), letter(2, 3, 0, 6));
        y.key(0, 1);
        int seed = y.seed(77);
        y.pass(1);
        due.told("2 does not defer by 0", y, 2, 1, 3, 0, 40, 0, 5, 0, N, N);
        due.is("no DRAW", y.seed(seed), 77);
    }

    /** "what its BYTES LAST, by 10, one more if anything is left over" */
    private static void slotsByTenSymbols() {
        // 1 hears 0 with 8 bits a symbol, so BYTES are SYMBOLS
        int[][] bytesAndSlots = {{1, 1}, {9, 1}, {10, 1}, {11, 2}, {19, 2}, {20, 2}, {21, 3}, {399, 40}, {400, 40}};
        for (int[] two : bytesAndSlots) {
            MainsLetters x = new MainsLetters();
            Due.lose(x, 0, 1, 43);
            due.is("LASTS", x.lasts(0, 1, two[0]), two[0]);
            write(x, letter(0, 1, 0, 0, two[0]));
            if (two[1] > 1) due.is(two[0] + " BYTES, not yet", x.pass(two[1] - 1), 0);
            due.is(two[0] + " BYTES", x.pass(1), 1);
        }
        MainsLetters x = new MainsLetters();
        Due.deafen(x, 1);
        x.noise(1, 0, 1, 23);
        write(x, letter(0, 1, 0, 0, 400));
        x.pass(1);
        due.is("the longest, 6400 symbols", x.ofStation(0, 8), 639);
        due.is("not yet", x.pass(638), 0);
        due.is("one to go", x.ofStation(0, 8), 1);
        due.is("arrived", x.pass(1), 1);
    }

    /** How long it LASTS is asked as it starts: not as it is written, and not on the way. */
    private static void lengthIsByTheStart() {
        MainsLetters x = new MainsLetters();
        write(x, letter(0, 1, 0, 1, 40));
        x.pass(1);
        Due.lose(x, 0, 1, 40);
        x.pass(1);
        due.is("20 symbols, one SLOT went by", x.ofStation(0, 8), 1);
        Due.lose(x, 0, 1, 43);
        x.key(1, 2);
        due.is("two SLOTS as it started", x.pass(1), 1);
    }

    /** "if the one to whom it goes is SENDING itself": also since this SLOT, whoever hears whom. */
    private static void spoiltByTheOneWrittenTo() {
        MainsLetters x = new MainsLetters();
        far(x, 4);
        write(x, letter(0, 1, 0, 0, 80), letter(1, 4, 0, 0, 80));
        x.pass(1);
        due.is("0 is SPOILT, as 1 is SENDING", x.ofStation(0, 9), 1);
        due.is("1 is not, as 4 does not hear 0", x.ofStation(1, 9), 0);
        due.is("1 arrives", x.pass(1), 1);
        due.is("0 collided", x.ofStation(0, 11), 1);
        // the one written to starts in the last SLOT, as it does not hear the other one then
        MainsLetters y = new MainsLetters();
        far(y, 4);
        write(y, letter(0, 1, 0, 0, 120));
        y.pass(2);
        due.is("clean yet", y.ofStation(0, 9), 0);
        write(y, letter(1, 4, 0, 0));
        Due.deafen(y, 1);
        due.is("the LETTER of 1 arrives", y.pass(1), 1);
        due.is("0 collided in its last SLOT", y.ofStation(0, 11), 1);
    }

    /** "or HEARS another one that is SENDING": not the one that writes to it, whose LETTER it is. */
    private static void spoiltByAnotherOne() {
        MainsLetters x = new MainsLetters();
        far(x, 1);
        write(x, letter(0, 2, 0, 0, 80), letter(1, 3, 0, 0, 40));
        x.pass(1);
        due.is("2 hears 0 and 1", x.ofStation(0, 9), 1);
        due.is("3 hears 0 and 1", x.ofStation(1, 11), 1);
        due.is("SPOILT stays", x.ofStation(0, 9), 1);
        MainsLetters y = new MainsLetters();
        write(y, letter(0, 2, 0, 0, 80));
        y.pass(1);
        due.is("alone", y.ofStation(0, 9), 0);
        due.is("alone, it arrives", y.pass(1), 1);
    }

    /** Who HEARS is all: not KEYS, nor CLASSES, nor whether the two that are SENDING hear one another. */
    private static void spoiltByHearingAlone() {
        MainsLetters x = new MainsLetters();
        x.key(4, 3);
        x.key(5, 3);
        write(x, letter(0, 1, 0, 0), letter(4, 5, 0, 0));
        x.pass(1);
        due.is("other KEYS: both collided", x.many(6), 2);
        MainsLetters y = new MainsLetters();
        far(y, 5, 14);
        write(y, letter(0, 1, 0, 0), letter(4, 5, 0, 0));
        due.is("0 and 4 hear one another, 1 and 5 hear one each", y.pass(1), 2);
        MainsLetters z = new MainsLetters();
        far(z, 5, 4);
        write(z, letter(0, 1, 0, 0), letter(4, 5, 3, 0));
        due.is("the LETTER of 4 arrives", z.pass(1), 1);
        due.is("1 hears 4, of a higher CLASS", z.ofStation(0, 11), 1);
        due.is("4 did not collide", z.ofStation(4, 11), 0);
    }

    /** "if its LETTER was not SPOILT in any of its SLOTS": the first, a middle one, or the last one is enough. */
    private static void spoiltInAnySlot() {
        for (int slot = 0; slot < 4; slot++) {
            MainsLetters x = new MainsLetters();
            far(x, 1, 3);
            write(x, letter(0, 2, 0, 0, 120), letter(1, 3, 0, slot));
            for (int i = 0; i < 3; i++) {
                due.is("LETTER of 1, SLOT " + slot + ", " + i, x.pass(1), i == slot || slot == 3 && i == 2 ? 1 : 0);
                if (i < 2) due.is("SPOILT, SLOT " + slot + ", " + i, x.ofStation(0, 9), i >= slot ? 1 : 0);
            }
            due.is("collided, SLOT " + slot, x.ofStation(0, 11), slot < 3 ? 1 : 0);
            due.is("arrived, SLOT " + slot, x.ofStation(0, 10), slot < 3 ? 0 : 1);
            due.is("WAITING again, SLOT " + slot, x.ofStation(0, 1), slot < 3 ? 1 : 0);
        }
    }

    /** One that was SENDING up to the SLOT ahead of the START spoils nothing. */
    private static void notSpoiltByTheSlotBefore() {
        MainsLetters x = new MainsLetters();
        far(x, 1);
        write(x, letter(1, 3, 0, 0, 40), letter(0, 2, 0, 1, 40));
        due.is("1 arrives", x.pass(1), 1);
        due.is("0 arrives behind it", x.pass(1), 1);
        due.is("none collided", x.many(6), 0);
        MainsLetters y = new MainsLetters();
        far(y, 1);
        write(y, letter(1, 3, 0, 0, 41), letter(0, 2, 0, 1, 40));
        due.is("neither arrives", y.pass(2), 0);
        due.is("both collided", y.many(6), 2);
    }

    /** "All .. is by how all is when it is asked": who HEARS whom may change while a LETTER is SENT. */
    private static void spoiltByAChangeOnTheWay() {
        MainsLetters x = new MainsLetters();
        far(x, 3, 12);
        write(x, letter(0, 2, 0, 0, 120), letter(1, 3, 0, 0, 120));
        x.pass(1);
        due.is("0 is clean", x.ofStation(0, 9), 0);
        due.is("1 is clean", x.ofStation(1, 9), 0);
        x.loss(1, 2, 5, 30);
        x.pass(1);
        due.is("2 hears 1 now", x.ofStation(0, 9), 1);
        x.loss(1, 2, 5, 60);
        due.is("the LETTER of 1 arrives", x.pass(1), 1);
        due.is("0 was SPOILT and stays so", x.ofStation(0, 11), 1);
    }

    /** "in each by numbers of STATIONS": DRAWS of those that COLLIDED, and of those that defer. */
    private static void drawsByNumbers() {
        MainsLetters x = new MainsLetters();
        write(x, letter(4, 1, 0, 0), letter(2, 1, 0, 0), letter(3, 1, 0, 0));
        x.seed(Due.seedThatDraws(16, 2, 16, 3, 16, 4));
        x.pass(1);
        for (int s = 2; s <= 4; s++) due.is("COUNT of " + s, x.ofStation(s, 6), s);
        MainsLetters y = new MainsLetters();
        write(y, letter(5, 0, 0, 7), letter(4, 0, 0, 7), letter(1, 0, 0, 7), letter(3, 0, 0, 0));
        y.seed(Due.seedThatDraws(16, 11, 16, 14, 16, 15));
        due.is("3 arrives", y.pass(1), 1);
        due.is("COUNT of 1", y.ofStation(1, 6), 11);
        due.is("COUNT of 4", y.ofStation(4, 6), 14);
        due.is("COUNT of 5", y.ofStation(5, 6), 15);
    }

    /** Step 4 goes ahead of step 5: a DRAW of one that COLLIDED goes ahead of those that defer, whatever its number. */
    private static void collisionsDrawAheadOfDefers() {
        MainsLetters x = new MainsLetters();
        write(x, letter(0, 1, 0, 7), letter(4, 1, 0, 0), letter(5, 1, 0, 0));
        x.seed(Due.seedThatDraws(16, 4, 16, 5, 16, 9));
        x.pass(1);
        due.is("COUNT of 4", x.ofStation(4, 6), 4);
        due.is("COUNT of 5", x.ofStation(5, 6), 5);
        due.is("COUNT of 0", x.ofStation(0, 6), 9);
        due.is("STAGE of 0", x.ofStation(0, 5), 1);
        due.is("0 did not collide", x.ofStation(0, 11), 0);
    }

    /** "HEARS one that did": two that start are one SLOT; it defers once. */
    private static void defersOnce() {
        MainsLetters x = new MainsLetters();
        write(x, letter(0, 1, 0, 7), letter(4, 1, 0, 0));
        x.seed(Due.seedThatDraws(16, 9));
        x.pass(1);
        due.told("by one that starts", x, 0, 1, 1, 0, 40, 1, 9, 1, N, N);
        write(x, letter(2, 3, 1, 0), letter(4, 5, 1, 0));
        x.pass(1);
        due.told("by two that start", x, 0, 1, 1, 0, 40, 1, 8, 0, N, N);
    }

    /** "(be it SENDING yet or not)": by one that is SENDING yet, that ARRIVED, that COLLIDED in this SLOT. */
    private static void defersByStartsThatEnded() {
        for (int kind = 0; kind < 3; kind++) {
            MainsLetters x = new MainsLetters();
            Due.lose(x, 0, 3, 60);
            write(x, letter(0, 1, 0, 7), letter(2, 1, 0, 0, kind == 0 ? 41 : 40));
            if (kind == 2) write(x, letter(3, 1, 0, 0));
            x.pass(1);
            due.is("2, kind " + kind, x.ofStation(2, 1), kind == 0 ? 2 : kind == 1 ? 0 : 1);
            due.is("0 deferred, kind " + kind, x.ofStation(0, 5), 1);
        }
    }

    /** "Each that was WAITING ahead of the SLOT": one that COLLIDES in the SLOT was SENDING, and does not defer in it. */
    private static void sendingDoesNotDefer() {
        // 0 is SENDING to 2 and ends in the SLOT in which 1 starts; 0 hears 1, but 1 does not hear 0
        MainsLetters x = new MainsLetters();
        Due.deafen(x, 1);
        write(x, letter(0, 2, 0, 0, 80), letter(1, 3, 0, 1, 40));
        x.seed(Due.seedThatDraws(16, 12, 16, 13));
        x.pass(2);
        due.told("0 COLLIDED and did not defer", x, 0, 1, 2, 0, 80, 1, 12, 1, N, N, 0, 1);
        due.told("1 COLLIDED and did not defer", x, 1, 1, 3, 0, 40, 1, 13, 1, N, N, 0, 1);
        // one that is SENDING on does not defer either
        MainsLetters y = new MainsLetters();
        Due.deafen(y, 1);
        write(y, letter(0, 2, 0, 0, 160), letter(1, 3, 0, 1, 40));
        y.pass(2);
        due.told("0 is SENDING", y, 0, 2, 2, 0, 160, N, N, N, 2, 1);
    }

    /** "did not START in it" */
    private static void startersDoNotDefer() {
        MainsLetters x = new MainsLetters();
        far(x, 3, 12);
        write(x, letter(0, 2, 0, 0, 80), letter(1, 3, 0, 0, 80));
        int seed = x.seed(5);
        x.pass(1);
        due.told("0 is SENDING", x, 0, 2, 2, 0, 80, N, N, N, 1, 0);
        due.told("1 is SENDING", x, 1, 2, 3, 0, 80, N, N, N, 1, 0);
        due.is("no DRAW", x.seed(seed), 5);
        due.is("both arrive", x.pass(1), 2);
    }

    /** 0 at STAGE 1 with a COUNT; all the others have no LETTER. */
    private static MainsLetters atStage1(int count) {
        MainsLetters x = new MainsLetters();
        write(x, letter(0, 1, 0, 7), letter(4, 1, 0, 0));
        x.seed(Due.seedThatDraws(16, count));
        x.pass(1);
        due.told("at STAGE 1", x, 0, 1, 1, 0, 40, 1, count, 1, N, N);
        return x;
    }

    /** "else DEFER is 1 less, and COUNT 1 less, if it is above 0": behind what step 1 took. */
    private static void countAbove0() {
        for (int count = 0; count <= 3; count++) {
            MainsLetters held = atStage1(count);
            write(held, letter(4, 5, 1, 0));
            held.pass(1);
            due.told("HELD, COUNT " + count, held, 0, 1, 1, 0, 40, 1, Math.max(0, count - 1), 0, N, N);
            if (count == 0) continue;
            MainsLetters free = atStage1(count);
            write(free, letter(4, 5, 0, 0));
            free.pass(1);
            due.told("not HELD, COUNT " + count, free, 0, 1, 1, 0, 40, 1, Math.max(0, count - 2), 0, N, N);
        }
        MainsLetters x = atStage1(9);
        write(x, letter(4, 5, 1, 0));
        x.pass(1);
        write(x, letter(4, 5, 1, 0));
        x.seed(Due.seedThatDraws(32, 31));
        x.pass(1);
        due.told("DEFER 0: STAGE 2, with a DRAW", x, 0, 1, 1, 0, 40, 2, 31, 3, N, N);
    }

    /** "HEARS one that did": to be heard by it is not enough. */
    private static void defersByHearing() {
        MainsLetters x = new MainsLetters();
        Due.deafen(x, 0);
        write(x, letter(0, 1, 0, 7), letter(4, 5, 0, 0));
        x.pass(1);
        due.told("0 does not hear 4", x, 0, 1, 1, 0, 40, 0, 6, 0, N, N);
        MainsLetters y = new MainsLetters();
        y.key(4, 1);
        y.key(5, 1);
        Due.deafen(y, 4);
        write(y, letter(0, 1, 0, 7), letter(4, 5, 0, 0));
        y.pass(1);
        due.is("0 hears 4, of another KEY, which does not hear it", y.ofStation(0, 5), 1);
    }

    /** "and has its LETTER yet": one that is DROPPED in the SLOT draws no more. */
    private static void letterKeptToDefer() {
        MainsLetters x = new MainsLetters();
        write(x, letter(0, 1, 0, 0), letter(4, 5, 0, 0));
        x.key(1, 2);
        x.seed(9);
        due.is("4 arrives, 0 is DROPPED", x.pass(1), 1);
        due.is("DROPPED", x.many(5), 1);
        due.is("no LETTER", x.many(0), 0);
        due.is("no DRAW", x.seed(1), 9);
        due.is("unwrite", x.unwrite(0), S);
    }

    /** "how many LETTERS ARRIVED in them": all that did, and of these SLOTS alone. */
    private static void threeArriveAtOnce() {
        MainsLetters x = new MainsLetters();
        far(x, 2, 3, 4, 5, 12, 13, 14, 15, 24, 25, 34, 35);
        write(x, letter(0, 1, 0, 0), letter(2, 3, 1, 0), letter(5, 4, 2, 0));
        due.is("three in one SLOT", x.pass(1), 3);
        write(x, letter(0, 1, 0, 0), letter(2, 3, 1, 1), letter(5, 4, 2, 2));
        due.is("two in two SLOTS", x.pass(2), 2);
        due.is("the last one", x.pass(1000), 1);
        due.is("in all", x.many(4), 6);
        due.is("SLOTS", x.many(3), 1003);
        due.is("came to 4", x.ofStation(4, 12), 2);
    }
}
