/** Promises 32 and 33: count, digest. */
public final class CountDigestTest {
    private static final Due due = new Due("CountDigestTest");

    public static void main(String[] args) {
        count();
        digest();
        digestChangesNothing();
        due.end();
    }

    private static LuckyStolen busy() {
        LuckyStolen x = Due.with("0r1f2r3f4r");
        x.lasts(12);
        x.event(0, 1, 0, 3, 0);
        x.event(0, 1, 1, 3, 1);
        x.event(0, 2, 2, 3, 2);
        x.event(0, 2, 4, 4, 0);
        x.event(1, 3, 4, 5, 0);
        x.event(0, 18, 4, 6, 7);
        x.event(5, 18, 4, 5, 0);
        x.book(3, 5, 3);
        x.book(3, 6, 3);
        x.guard(2, 16);
        x.guard(3, 1);
        return x;
    }

    private static void count() {
        LuckyStolen x = busy();
        int[] want = {5, 10, 7, 2, 3, 12, 2, 2, 0};
        for (int what = 0; what <= 8; what++) {
            due.is("count(" + what + ")", x.count(what), want[what]);
        }
        due.is("count(-1)", x.count(-1), -2);
        due.is("count(9)", x.count(9), -2);
        x.copy(0, 0, 0, 0, 0);
        due.is("count(8)", x.count(8), 1);
        x.type('9');
        due.is("count(0) with a FAULT", x.count(0), 0);
        due.is("count(1) with a FAULT", x.count(1), 11);
        due.is("count(3) with a FAULT", x.count(3), 7);
        due.is("count(4) with a FAULT", x.count(4), 0);
        due.is("count(7) with a FAULT", x.count(7), 0);
    }

    private static void digest() {
        digestIsTold("new", new LuckyStolen());
        digestIsTold("busy", busy());
        LuckyStolen faulty = busy();
        faulty.type('9');
        digestIsTold("faulty", faulty);
        LuckyStolen nine = Due.with("0r1r2r3r4r5r6r7r0f");
        for (int i = 0; i < 40; i++) {
            nine.event(0, 5 * i > 199 ? 199 : 5 * i, i % 9, i * 3 % 8, i % 10);
        }
        digestIsTold("nine", nine);
        digestIsTold("luck about the nights that are asked", aroundNight(20));
        digestIsTold("from night 21 on", aroundNight(21));
        digestIsTold("from night 60 on", aroundNight(60));
        digestIsTold("from night 61 on", aroundNight(61));
        digestIsTold("from night 99 on", aroundNight(99));
        digestIsTold("from night 100 on", aroundNight(100));
        digestIsTold("from night 0 on", aroundNight(0));
        digestIsTold("the last night's lets", chainOfTwo());
    }

    /** One NIGHT of luck, so that a digest that asks for the NIGHT before or behind tells something else. */
    private static LuckyStolen aroundNight(int night) {
        LuckyStolen x = Due.with("0r");
        x.lasts(1);
        x.event(0, night, 0, 1, 0);
        return x;
    }

    /** The best first THEFT of one NIGHT is not that of two, and NIGHT 198 is ahead of the last EVENT. */
    private static LuckyStolen chainOfTwo() {
        LuckyStolen x = Due.with("0r1r2r3r4r5r6r7r");
        for (int s = 0; s < 8; s++) {
            x.event(0, 199, s, (s + 1) % 8, 0);
        }
        x.event(5, 199, 7, 0, 0);
        return x;
    }

    private static void digestIsTold(String when, LuckyStolen x) {
        long[] h = {17};
        for (int what = 0; what <= 7; what++) {
            add(h, x.count(what));
        }
        add(h, x.fault(), x.judged());
        for (int s = 0; s < x.count(0); s++) {
            add(h, x.stone(s, 0), x.stone(s, 1));
            add(h, x.at(s, 20, 0), x.at(s, 20, 1), x.at(s, 20, 2));
            add(h, x.at(s, 60, 0), x.at(s, 60, 1), x.at(s, 60, 2));
        }
        for (int house = 0; house < 8; house++) {
            add(h, x.luck(house, 20, 0), x.luck(house, 20, 1), x.days(house, 0, 99), x.led(house, 20, 0));
            add(h, x.chance(house, 5, 0), x.chance(house, 5, 1), x.waits(house, 0), x.waits(house, 1));
            add(h, x.thief(house, 7, 9));
        }
        add(h, x.without(0, 99), x.fitting(0), x.fitting(1), x.fitting(2), x.fitting(3));
        add(h, x.lets(199, 1, 0), x.lets(199, 1, 1));
        add(h, x.robs(7, 50, 0), x.robs(7, 50, 1), x.robs(7, 50, 2), x.careless(5, 40));
        due.is(when + ": digest()", x.digest(), h[0]);
    }

    private static void add(long[] h, long... answers) {
        for (long answer : answers) {
            h[0] = 31 * h[0] + answer;
        }
    }

    private static void digestChangesNothing() {
        LuckyStolen x = busy();
        long first = x.digest();
        due.is("digest() again", x.digest(), first);
        due.is("count(8) behind digest()", x.count(8), 0);
        x.get(0, 0, 0);
        due.is("digest() behind a FINDING", x.digest(), first);
        x.guard(7, 3);
        due.holds("another guard, another digest", x.digest() != first);
    }
}
