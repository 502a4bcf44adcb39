import java.math.BigInteger;

/** The boundary cases of promises 32 and 33: count, digest. */
public final class CountDigestBoundsTest {
    private static final Due due = new Due("CountDigestBoundsTest");
    private static final Refusals refusals = new Refusals(due);

    public static void main(String[] args) {
        countWhat();
        countOfNothing();
        countOfAllThatThereMayBe();
        countWithAFault();
        countAgainstTheLaw();
        countTrueThefts();
        digestWraps();
        digestTellsRefusals();
        digestOfCounts();
        digestChangesNothing();
        due.end();
    }

    /** "0 STONES ... 8 the number of the latest FINDING"; "BAD" */
    private static void countWhat() {
        for (int what : Refusals.outside(0, 8)) {
            refusals.bad("count(" + what + ")", x -> x.count(what));
        }
    }

    private static void countsAre(String when, LuckyStolen x, int... want) {
        for (int what = 0; what < want.length; what++) {
            due.is(when + ": count(" + what + ")", x.count(what), want[what]);
        }
    }

    /** Nothing is there yet but LASTS. */
    private static void countOfNothing() {
        countsAre("new", new LuckyStolen(), 0, 0, 0, 0, 0, 30, 0, 0, 0);
    }

    /** 9 STONES, 30 bytes, 40 EVENTS, 8 BOOKS, 9 forged ones, LASTS 99, FINDING 5 */
    private static void countOfAllThatThereMayBe() {
        LuckyStolen x = Due.with("0f0f0f0f0f0f0f0f0f");
        x.lasts(99);
        for (int e = 0; e < 40; e++) {
            x.event(0, 199, e % 9, e / 9 % 2 == 0 ? 1 : 0, 9);
        }
        for (int b = 0; b < 8; b++) {
            x.book(0, 0, 19);
        }
        x.sheet(0, 0, -1);
        countsAre("as many as there may be", x, 9, 18, 40, 0, 40, 99, 8, 9, 5);
        countsAre("30 bytes", State.FAULTY.anew(), 0, 30, 2, 2, 0, 30, 1, 0, 0);
    }

    /** "With a FAULT there are none": no STONES, so that every EVENT is against the LAW */
    private static void countWithAFault() {
        LuckyStolen x = Due.with("0r1f");
        x.event(0, 0, 0, 1, 0);
        x.event(0, 0, 1, 0, 0);
        countsAre("well", x, 2, 4, 2, 0, 2, 30, 0, 1, 0);
        x.type('2');
        countsAre("not ended", x, 0, 5, 2, 2, 0, 30, 0, 0, 0);
        x.type('r');
        countsAre("ended", x, 3, 6, 2, 0, 2, 30, 0, 1, 0);
    }

    /** "3 those that are against the LAW": from none to 40, the last one too */
    private static void countAgainstTheLaw() {
        LuckyStolen none = Due.with("0r");
        LuckyStolen all = Due.with("0r");
        for (int e = 1; e <= 40; e++) {
            none.event(5, 0, 0, 0, 0);
            all.event(5, 199, 0, 1, 0);
            due.is("by the law: count(3)", none.count(3), 0);
            due.is("against it: count(3)", all.count(3), e);
        }
    }

    /** "4 true THEFTS (by the LAW)": not those against it, nor those that are as GIFTS */
    private static void countTrueThefts() {
        LuckyStolen x = Due.with("0r");
        int[] want = {1, 2, 2, 3, 3, 4, 4, 5, 5, 6};
        for (int knowing = 0; knowing <= 9; knowing++) {
            x.event(0, 0, 0, 1 + knowing % 2, knowing);
            due.is("count(4) with knowing " + knowing, x.count(4), want[knowing]);
            x.event(0, 0, 0, 1 + knowing % 2, knowing);
            due.is("count(4) with one against the law", x.count(4), want[knowing]);
        }
        x.event(1, 0, 0, 5, 0);
        due.is("count(4) with a gift", x.count(4), 6);
        x.event(0, 199, 0, 7, 0);
        due.is("count(4) with one in the last night", x.count(4), 7);
    }

    private static long told(LuckyStolen x) {
        Digest d = new Digest();
        for (int what = 0; what <= 7; what++) {
            d.add(x.count(what));
        }
        d.add(x.fault(), x.judged());
        int stones = x.count(0);
        for (int s = 0; s < stones; s++) {
            d.add(x.stone(s, 0), x.stone(s, 1));
            d.add(x.at(s, 20, 0), x.at(s, 20, 1), x.at(s, 20, 2));
            d.add(x.at(s, 60, 0), x.at(s, 60, 1), x.at(s, 60, 2));
        }
        for (int house = 0; house < 8; house++) {
            d.add(x.luck(house, 20, 0), x.luck(house, 20, 1), x.days(house, 0, 99), x.led(house, 20, 0));
            d.add(x.chance(house, 5, 0), x.chance(house, 5, 1), x.waits(house, 0), x.waits(house, 1));
            d.add(x.thief(house, 7, 9));
        }
        d.add(x.without(0, 99), x.fitting(0), x.fitting(1), x.fitting(2), x.fitting(3));
        d.add(x.lets(199, 1, 0), x.lets(199, 1, 1));
        d.add(x.robs(7, 50, 0), x.robs(7, 50, 1), x.robs(7, 50, 2), x.careless(5, 40));
        return d.h.longValue();
    }

    /** Without any bound, cut down to a long at the end alone. */
    private static final class Digest {
        BigInteger h = BigInteger.valueOf(17);

        void add(long... answers) {
            for (long answer : answers) {
                h = h.multiply(BigInteger.valueOf(31)).add(BigInteger.valueOf(answer));
            }
        }
    }

    /** "as longs that wrap" */
    private static void digestWraps() {
        for (State state : State.values()) {
            due.is(state + ": digest()", state.anew().digest(), told(state.anew()));
        }
    }

    /** "(as they are told)": of GUARD 16 the least long and 3; without(0, 99) of no EVENTS -10002 */
    private static void digestTellsRefusals() {
        for (int house = 0; house < 8; house++) {
            LuckyStolen x = new LuckyStolen();
            x.guard(house, 16);
            due.is("waits(" + house + ", 0)", x.waits(house, 0), Refusals.LONG_NOT);
            due.is("guard 16 of " + house + ": digest()", x.digest(), told(x));
        }
        LuckyStolen x = new LuckyStolen();
        due.is("without(0, 99)", x.without(0, 99), -10002);
        due.is("no events: digest()", x.digest(), told(x));
        x.book(0, 0, 0);
        due.is("fitting(1)", x.fitting(1), -1);
        due.is("no sets: digest()", x.digest(), told(x));
    }

    /** "count() 0 to 7": not the FINDING */
    private static void digestOfCounts() {
        LuckyStolen x = new LuckyStolen();
        long before = x.digest();
        x.lose(0);
        due.is("count(8)", x.count(8), 1);
        due.is("digest() behind a finding", x.digest(), before);
        x.sheet(0, 0, 60);
        due.is("digest() behind a new row", x.digest(), before);
        LuckyStolen[] others = {Due.with("0"), new LuckyStolen(), new LuckyStolen(), new LuckyStolen()};
        others[1].event(4, 199, 8, 7, 0);
        others[2].lasts(99);
        others[3].book(0, 0, 1);
        for (int i = 0; i < others.length; i++) {
            due.holds("another digest() of " + i, others[i].digest() != before);
            due.is("digest() of " + i, others[i].digest(), told(others[i]));
        }
    }

    /** What digest() asks for is never refused in a way that shows, and it asks for nothing that changes. */
    private static void digestChangesNothing() {
        for (State state : State.values()) {
            LuckyStolen x = state.anew();
            long first = x.digest();
            due.is(state + ": digest() again", x.digest(), first);
            due.is(state + ": count(8) behind digest()", x.count(8), state.anew().count(8));
            for (int part = 0; part < Shown.PARTS; part++) {
                LuckyStolen y = state.anew();
                y.digest();
                due.holds(state + ": part " + part, Shown.part(part, y).equals(Shown.part(part, state.anew())));
            }
        }
    }
}
