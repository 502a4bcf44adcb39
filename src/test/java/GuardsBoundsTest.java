import java.math.BigInteger;

/** The boundary cases of promises 21 to 25: guard, chance, waits, careless, thief. */
public final class GuardsBoundsTest {
    private static final Due due = new Due("GuardsBoundsTest");
    private static final Refusals refusals = new Refusals(due);

    public static void main(String[] args) {
        guardHouses();
        guardNumbers();
        chanceHouses();
        chanceNights();
        chanceWhat();
        chanceOfNoneAndOfAll();
        chanceInLowestTerms();
        waitsHouses();
        waitsWhat();
        waitsOfOneWhoNeverSleeps();
        waitsBadAheadOfNot();
        waitsInLowestTerms();
        carelessNights();
        carelessHundredths();
        carelessJustSoMany();
        thiefHouses();
        thiefNights();
        thiefOfNoneAndOfAllNights();
        thiefOfEveryLot();
        lotsWrap();
        due.end();
    }

    private static LuckyStolen guarded(int house, int v) {
        LuckyStolen x = new LuckyStolen();
        x.guard(house, v);
        return x;
    }

    /** "GUARD of a HOUSE"; "BAD" */
    private static void guardHouses() {
        for (int house : Refusals.outside(0, 7)) {
            refusals.bad("guard(" + house + ", 8)", x -> x.guard(house, 8));
        }
        for (int house = 0; house <= 7; house++) {
            LuckyStolen x = guarded(house, 3);
            for (int other = 0; other <= 7; other++) {
                due.is("guard(" + other + ", 4), 3 being that of " + house, x.guard(other, 4), other == house ? 3 : 8);
            }
        }
    }

    /** "0 to 16 sixteenths"; "8 at first"; "what it was" */
    private static void guardNumbers() {
        for (int v : Refusals.outside(0, 16)) {
            refusals.bad("guard(0, " + v + ")", x -> x.guard(0, v));
            refusals.bad("guard(7, " + v + ")", x -> x.guard(7, v));
        }
        LuckyStolen x = new LuckyStolen();
        due.is("guard(7, 0)", x.guard(7, 0), 8);
        for (int v = 1; v <= 16; v++) {
            due.is("guard(7, " + v + ")", x.guard(7, v), v - 1);
        }
        due.is("guard(7, 17)", x.guard(7, 17), -2);
        due.is("guard(7, -1)", x.guard(7, -1), -2);
        due.is("guard(7, 0)", x.guard(7, 0), 16);
    }

    /** "BAD. (As the least long.)": the least long and 2 more */
    private static void chanceHouses() {
        for (int house : Refusals.outside(0, 7)) {
            refusals.longBad("chance(" + house + ", 1, 0)", x -> x.chance(house, 1, 0));
            refusals.longBad("chance(" + house + ", 12, 1)", x -> x.chance(house, 12, 1));
        }
        for (int house = 0; house <= 7; house++) {
            LuckyStolen x = guarded(house, 15);
            due.is("chance(" + house + ", 1, 1) with guard 15", x.chance(house, 1, 1), 16);
            due.is("chance of its neighbour", x.chance((house + 1) % 8, 1, 1), 2);
        }
        due.is("the least long and 2", new LuckyStolen().chance(8, 1, 0), Long.MIN_VALUE + 2);
    }

    /** "for n NIGHTS (0 to 12)" */
    private static void chanceNights() {
        for (int n : Refusals.outside(0, 12)) {
            refusals.longBad("chance(0, " + n + ", 0)", x -> x.chance(0, n, 0));
            refusals.longBad("chance(7, " + n + ", 1)", x -> x.chance(7, n, 1));
        }
        LuckyStolen x = new LuckyStolen();
        for (int n = 0; n <= 12; n++) {
            due.is("chance(0, " + n + ", 0)", x.chance(0, n, 0), (1 << n) - 1);
            due.is("chance(0, " + n + ", 1)", x.chance(0, n, 1), 1 << n);
        }
    }

    /** "above, below" */
    private static void chanceWhat() {
        for (int what : Refusals.outside(0, 1)) {
            refusals.longBad("chance(0, 1, " + what + ")", x -> x.chance(0, 1, what));
            refusals.longBad("chance(7, 12, " + what + ")", x -> x.chance(7, 12, what));
        }
    }

    private static void chanceIs(int v, int n, long above, long below) {
        LuckyStolen x = guarded(5, v);
        due.is("guard " + v + ": chance(5, " + n + ", 0)", x.chance(5, n, 0), above);
        due.is("guard " + v + ": chance(5, " + n + ", 1)", x.chance(5, n, 1), below);
    }

    /** "(0 by 1)": in no NIGHTS, and where somebody is always awake; 1 by 1 where nobody ever is */
    private static void chanceOfNoneAndOfAll() {
        for (int v = 0; v <= 16; v++) {
            chanceIs(v, 0, 0, 1);
        }
        for (int n = 1; n <= 12; n++) {
            chanceIs(16, n, 0, 1);
            chanceIs(0, n, 1, 1);
        }
    }

    /** "FRACTIONS are told in lowest terms", up to 16 to the twelfth */
    private static void chanceInLowestTerms() {
        for (int v = 0; v <= 16; v++) {
            for (int n = 0; n <= 12; n++) {
                BigInteger below = BigInteger.valueOf(16).pow(n);
                BigInteger above = below.subtract(BigInteger.valueOf(v).pow(n));
                BigInteger both = above.gcd(below);
                chanceIs(v, n, above.divide(both).longValueExact(), below.divide(both).longValueExact());
            }
        }
        chanceIs(15, 12, 151728638820031L, 281474976710656L);
        chanceIs(1, 12, 281474976710655L, 281474976710656L);
        chanceIs(14, 12, 54878189535L, 68719476736L);
    }

    /** "BAD" */
    private static void waitsHouses() {
        for (int house : Refusals.outside(0, 7)) {
            refusals.longBad("waits(" + house + ", 0)", x -> x.waits(house, 0));
            refusals.longBad("waits(" + house + ", 1)", x -> x.waits(house, 1));
        }
        for (int house = 0; house <= 7; house++) {
            LuckyStolen x = guarded(house, 15);
            due.is("waits(" + house + ", 0) with guard 15", x.waits(house, 0), 16);
            due.is("waits of its neighbour", x.waits((house + 1) % 8, 0), 2);
        }
    }

    /** "above, below. BAD" */
    private static void waitsWhat() {
        for (int what : Refusals.outside(0, 1)) {
            refusals.longBad("waits(0, " + what + ")", x -> x.waits(0, what));
            refusals.longBad("waits(7, " + what + ")", x -> x.waits(7, what));
        }
    }

    /** "NOT: GUARD 16"; as the least long and 3 more */
    private static void waitsOfOneWhoNeverSleeps() {
        for (int w = 0; w <= 1; w++) {
            int what = w;
            refusals.refused("waits(2, " + w + ")", x -> x.waits(2, what), Refusals.LONG_NOT, State.BUSY);
            refusals.refused("waits(7, " + w + ")", x -> x.waits(7, what), Refusals.LONG_NOT, State.FAULTY, State.FULL);
        }
        LuckyStolen x = guarded(0, 16);
        due.is("waits(0, 0)", x.waits(0, 0), Long.MIN_VALUE + 3);
        due.is("waits(0, 1)", x.waits(0, 1), Long.MIN_VALUE + 3);
        due.is("waits(1, 0): another house", x.waits(1, 0), 2);
        x.guard(0, 15);
        due.is("waits(0, 0) with guard 15", x.waits(0, 0), 16);
        due.is("waits(0, 1) with guard 15", x.waits(0, 1), 1);
    }

    /** "the first that fits, in the order told": BAD, then NOT. */
    private static void waitsBadAheadOfNot() {
        LuckyStolen x = guarded(3, 16);
        due.is("waits(3, 0)", x.waits(3, 0), Refusals.LONG_NOT);
        for (int what : Refusals.outside(0, 1)) {
            due.is("waits(3, " + what + ")", x.waits(3, what), Refusals.LONG_BAD);
        }
    }

    /** "the mean of NIGHTS up to the first theft, it too: a FRACTION" */
    private static void waitsInLowestTerms() {
        int[] above = {1, 16, 8, 16, 4, 16, 8, 16, 2, 16, 8, 16, 4, 16, 8, 16};
        int[] below = {1, 15, 7, 13, 3, 11, 5, 9, 1, 7, 3, 5, 1, 3, 1, 1};
        for (int v = 0; v <= 15; v++) {
            LuckyStolen x = guarded(6, v);
            due.is("guard " + v + ": waits(6, 0)", x.waits(6, 0), above[v]);
            due.is("guard " + v + ": waits(6, 1)", x.waits(6, 1), below[v]);
        }
    }

    /** "the chance in n NIGHTS (1 to 12)" */
    private static void carelessNights() {
        for (int n : Refusals.outside(1, 12)) {
            refusals.bad("careless(" + n + ", 0)", x -> x.careless(n, 0));
            refusals.bad("careless(" + n + ", 100)", x -> x.careless(n, 100));
        }
        LuckyStolen x = new LuckyStolen();
        due.is("careless(1, 50)", x.careless(1, 50), 8);
        due.is("careless(12, 50)", x.careless(12, 50), 16);
    }

    /** "c hundredths (0 to 100)" */
    private static void carelessHundredths() {
        for (int c : Refusals.outside(0, 100)) {
            refusals.bad("careless(1, " + c + ")", x -> x.careless(1, c));
            refusals.bad("careless(12, " + c + ")", x -> x.careless(12, c));
        }
        LuckyStolen x = new LuckyStolen();
        for (int n = 1; n <= 12; n++) {
            due.is("careless(" + n + ", 0)", x.careless(n, 0), 16);
            due.is("careless(" + n + ", 100)", x.careless(n, 100), 0);
        }
        due.is("careless(1, 1)", x.careless(1, 1), 16);
        due.is("careless(1, 99)", x.careless(1, 99), 1);
    }

    /** "the least GUARD by which the chance ... is c hundredths ... or less": also where it is just so many */
    private static void carelessJustSoMany() {
        LuckyStolen x = new LuckyStolen();
        due.is("careless(1, 75)", x.careless(1, 75), 4);
        due.is("careless(1, 74)", x.careless(1, 74), 5);
        due.is("careless(1, 50)", x.careless(1, 50), 8);
        due.is("careless(1, 49)", x.careless(1, 49), 9);
        due.is("careless(1, 25)", x.careless(1, 25), 12);
        due.is("careless(1, 24)", x.careless(1, 24), 13);
        due.is("careless(2, 75)", x.careless(2, 75), 8);
        due.is("careless(2, 74)", x.careless(2, 74), 9);
        for (int n = 1; n <= 12; n++) {
            LuckyStolen y = new LuckyStolen();
            for (int c = 0; c <= 100; c++) {
                due.is("careless(" + n + ", " + c + ")", y.careless(n, c), leastGuard(n, c));
            }
        }
    }

    private static int leastGuard(int n, int c) {
        BigInteger all = BigInteger.valueOf(16).pow(n);
        int v = 0;
        while (all.subtract(BigInteger.valueOf(v).pow(n)).multiply(BigInteger.valueOf(100))
                .compareTo(all.multiply(BigInteger.valueOf(c))) > 0) {
            v++;
        }
        return v;
    }

    /** "BAD": no such HOUSE */
    private static void thiefHouses() {
        for (int house : Refusals.outside(0, 7)) {
            refusals.bad("thief(" + house + ", 1, 1)", x -> x.thief(house, 1, 1));
            refusals.bad("thief(" + house + ", 1, 0)", x -> x.thief(house, 1, 0));
        }
        for (int house = 0; house <= 7; house++) {
            LuckyStolen x = guarded(house, 16);
            due.is("thief(" + house + ", 1, 200) with guard 16", x.thief(house, 1, 200), -1);
            due.is("thief of its neighbour", x.thief((house + 1) % 8, 1, 200), 1);
        }
    }

    /** "n of these, 0 to 200" */
    private static void thiefNights() {
        for (int n : Refusals.outside(0, 200)) {
            refusals.bad("thief(0, 1, " + n + ")", x -> x.thief(0, 1, n));
            refusals.bad("thief(7, 1, " + n + ")", x -> x.thief(7, 1, n));
        }
        LuckyStolen x = guarded(0, 0);
        due.is("thief(0, 1, 0): no nights", x.thief(0, 1, 0), -1);
        due.is("thief(0, 1, 1)", x.thief(0, 1, 1), 0);
        due.is("thief(0, 1, 200)", x.thief(0, 1, 200), 0);
    }

    /** "in that NIGHT: which; NONE": the last of n NIGHTS, and the first behind them */
    private static void thiefOfNoneAndOfAllNights() {
        // With GUARD 15 this SEED is the one that waits longest: the first LOT of 15 comes in NIGHT 161.
        LuckyStolen x = guarded(4, 15);
        due.is("thief(4, 1021033, 200)", x.thief(4, 1021033, 200), 161);
        due.is("thief(4, 1021033, 162)", x.thief(4, 1021033, 162), 161);
        due.is("thief(4, 1021033, 161)", x.thief(4, 1021033, 161), -1);
        for (int n = 0; n <= 200; n++) {
            due.is("thief(4, 1021033, " + n + ")", x.thief(4, 1021033, n), n > 161 ? 161 : -1);
        }
        LuckyStolen awake = guarded(4, 16);
        LuckyStolen asleep = guarded(4, 0);
        for (int seed = -100; seed <= 100; seed++) {
            due.is("guard 16: thief(4, " + seed + ", 200)", awake.thief(4, seed, 200), -1);
            due.is("guard 0: thief(4, " + seed + ", 200)", asleep.thief(4, seed, 200), 0);
        }
    }

    private static int firstLot(int seed) {
        BigInteger state = BigInteger.valueOf(seed).multiply(BigInteger.valueOf(1103515245)).add(BigInteger.valueOf(12345));
        return state.mod(BigInteger.ONE.shiftLeft(32)).shiftRight(16).intValueExact() % 16;
    }

    /** "it is GUARD or more": a LOT just as high, and one less, for all sixteen of them */
    private static void thiefOfEveryLot() {
        boolean[] seen = new boolean[16];
        for (int seed = 0; seed < 200; seed++) {
            int lot = firstLot(seed);
            seen[lot] = true;
            due.is("guard " + lot + ": thief(1, " + seed + ", 1)", guarded(1, lot).thief(1, seed, 1), 0);
            due.is("guard " + (lot + 1) + ": thief(1, " + seed + ", 1)", guarded(1, lot + 1).thief(1, seed, 1), -1);
        }
        for (int lot = 0; lot < 16; lot++) {
            due.holds("lot " + lot + " came", seen[lot]);
        }
    }

    /** "as ints that wrap; its upper 16 bits as a number from 0 on" */
    private static void lotsWrap() {
        int[] seeds = {Integer.MIN_VALUE, Integer.MAX_VALUE, -1, 0, 1, -12345, 65535, 65536, 1 << 30, 1103515245};
        for (int seed : seeds) {
            int lot = firstLot(seed);
            due.is("guard " + lot + ": thief(1, " + seed + ", 1)", guarded(1, lot).thief(1, seed, 1), 0);
            due.is("guard " + (lot + 1) + ": thief(1, " + seed + ", 1)", guarded(1, lot + 1).thief(1, seed, 1), -1);
            for (int v = 1; v <= 15; v++) {
                due.is("guard " + v + ": thief(1, " + seed + ", 200)", guarded(1, v).thief(1, seed, 200), nightOf(seed, v));
            }
        }
    }

    private static int nightOf(int seed, int v) {
        BigInteger wrap = BigInteger.ONE.shiftLeft(32);
        BigInteger state = BigInteger.valueOf(seed);
        for (int night = 0; night < 200; night++) {
            state = state.multiply(BigInteger.valueOf(1103515245)).add(BigInteger.valueOf(12345)).mod(wrap);
            if (state.shiftRight(16).intValueExact() % 16 >= v) {
                return night;
            }
        }
        return -1;
    }
}
