/** Promises 19 and 20: lets, robs. */
public final class LetsRobsTest {
    private static final Due due = new Due("LetsRobsTest");

    public static void main(String[] args) {
        letsBad();
        lets();
        letsLeastRow();
        letsShortLuck();
        letsChangesNothing();
        robs();
        due.end();
    }

    private static void letsAre(LuckyStolen x, String when, int night, int n, int most, int first) {
        due.is(when + ": lets(" + night + ", " + n + ", 0)", x.lets(night, n, 0), most);
        due.is(when + ": lets(" + night + ", " + n + ", 1)", x.lets(night, n, 1), first);
    }

    private static void letsBad() {
        LuckyStolen x = Due.with("0r");
        x.event(0, 50, 0, 1, 0);
        due.is("lets(-1, 1, 0)", x.lets(-1, 1, 0), -2);
        due.is("lets(49, 1, 0)", x.lets(49, 1, 0), -2);
        due.is("lets(200, 1, 0)", x.lets(200, 1, 0), -2);
        due.is("lets(50, 0, 0)", x.lets(50, 0, 0), -2);
        due.is("lets(50, 4, 0)", x.lets(50, 4, 0), -2);
        due.is("lets(50, 1, -1)", x.lets(50, 1, -1), -2);
        due.is("lets(50, 1, 2)", x.lets(50, 1, 2), -2);
        due.is("lets(50, 1, 0)", x.lets(50, 1, 0), 1);
        due.is("lets(199, 3, 0)", x.lets(199, 3, 0), 3);
    }

    private static void lets() {
        letsAre(new LuckyStolen(), "no stones", 0, 3, 0, -1);
        letsAre(Due.with("0f"), "a forged one", 0, 3, 0, -1);
        letsAre(Due.with("0r"), "one", 0, 1, 1, 1);
        letsAre(Due.with("1r"), "one", 0, 3, 3, 0);
        letsAre(Due.with("0f1r"), "a forged one ahead", 0, 2, 2, 8);
        letsAre(Due.with("0r1r2r"), "three", 0, 3, 6, 1);
        LuckyStolen x = Due.with("0r1r");
        x.event(3, 5, 0, 0, 0);
        letsAre(x, "one in the field", 5, 3, 3, 8);
        LuckyStolen y = Due.with("0r");
        y.event(0, 5, 0, 1, 0);
        letsAre(y, "one that is lucky", 5, 3, 3, -1);
        letsAre(y, "it is so up to 34", 32, 3, 3, -1);
        letsAre(y, "then it must be stolen", 33, 3, 3, -1);
        letsAre(y, "at once", 35, 3, 3, 0);
    }

    private static void letsLeastRow() {
        LuckyStolen x = Due.with("0r0r");
        x.event(0, 0, 0, 3, 0);
        x.event(0, 0, 1, 3, 0);
        letsAre(x, "two in one house", 0, 1, 2, 0);
        LuckyStolen y = Due.with("0r1r2r3r4r5r6r7r0r");
        letsAre(y, "nine", 0, 3, 6, 1);
        for (int s = 0; s < 8; s++) {
            y.event(0, 1, s, (s + 1) % 8, 0);
        }
        letsAre(y, "all lucky", 1, 3, 24, -1);
        y.event(5, 1, 7, 0, 0);
        letsAre(y, "one thanked: it can't rob itself", 1, 1, 7, -1);
        LuckyStolen z = Due.with("0r1r2r3r4r5r6r7r");
        for (int s = 0; s < 8; s++) {
            z.event(0, 1, s, (s + 1) % 8, 0);
        }
        z.event(5, 1, 7, 0, 0);
        letsAre(z, "a chain of two", 1, 2, 15, 0);
        LuckyStolen three = Due.with("0r0r0r");
        for (int s = 0; s < 3; s++) {
            three.event(0, 0, s, 3, 0);
        }
        letsAre(three, "three in one house", 0, 2, 5, 0);
        letsAre(three, "three in one house", 0, 3, 8, 0);
        letsAre(Due.with("0r1f"), "only the first can be stolen", 0, 3, 3, 1);
    }

    private static void letsShortLuck() {
        LuckyStolen x = Due.with("0r1r2r");
        x.lasts(1);
        letsAre(x, "luck of a night", 0, 3, 3, 1);
        x.lasts(2);
        letsAre(x, "luck of two nights", 0, 3, 5, 1);
        LuckyStolen y = Due.with("0r");
        y.lasts(2);
        y.event(0, 4, 0, 1, 0);
        letsAre(y, "two nights of its own and one stolen", 4, 3, 3, -1);
        letsAre(y, "one of its own", 5, 3, 3, -1);
    }

    private static void letsChangesNothing() {
        LuckyStolen x = Due.with("0r1r2r3f");
        x.event(0, 3, 0, 1, 0);
        long before = x.digest();
        x.lets(3, 3, 0);
        x.lets(3, 3, 1);
        due.is("digest() behind lets()", x.digest(), before);
        due.is("at(0, 3, 0)", x.at(0, 3, 0), 1);
        due.is("count(2)", x.count(2), 1);
    }

    private static void robsAre(LuckyStolen x, int w, int n, int one, int other, int neither) {
        String call = "robs(" + w + ", " + n + ", ";
        due.is(call + "0)", x.robs(w, n, 0), one);
        due.is(call + "1)", x.robs(w, n, 1), other);
        due.is(call + "2)", x.robs(w, n, 2), neither);
    }

    private static void robs() {
        LuckyStolen x = new LuckyStolen();
        robsAre(x, 7, 50, 28, 22, 0);
        robsAre(x, 1, 1, 1, 0, 0);
        robsAre(x, 1, 200, 100, 100, 0);
        robsAre(x, 30, 200, 110, 90, 0);
        x.lasts(5);
        robsAre(x, 7, 50, 20, 16, 14);
        robsAre(x, 7, 7, 5, 0, 2);
        robsAre(x, 7, 8, 5, 1, 2);
        x.lasts(1);
        robsAre(x, 30, 31, 1, 1, 29);
        due.is("robs(0, 1, 0)", x.robs(0, 1, 0), -2);
        due.is("robs(31, 1, 0)", x.robs(31, 1, 0), -2);
        due.is("robs(1, 0, 0)", x.robs(1, 0, 0), -2);
        due.is("robs(1, 201, 0)", x.robs(1, 201, 0), -2);
        due.is("robs(1, 1, -1)", x.robs(1, 1, -1), -2);
        due.is("robs(1, 1, 3)", x.robs(1, 1, 3), -2);
    }
}
