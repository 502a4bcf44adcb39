import java.util.Random;

/** All promises: long runs of calls, good and bad, each answer held against the Model's. */
public final class RandomRunsTest {
    private static final int CALLS = 510;
    private static final Due due = new Due("RandomRunsTest");

    private final Random random;
    private final String run;
    private final LuckyStolen x = new LuckyStolen();
    private final Model m = new Model();

    private RandomRunsTest(int seed) {
        random = new Random(seed);
        run = "seed " + seed + ": ";
    }

    public static void main(String[] args) {
        int runs = args.length > 0 ? Integer.parseInt(args[0]) : 120;
        for (int seed = 0; seed < runs; seed++) {
            new RandomRunsTest(seed).go();
        }
        for (int seed = 0; seed < runs / 10; seed++) {
            new RandomRunsTest(100000 + seed).letsOfThreeNights();
        }
        due.end();
    }

    private void go() {
        for (int i = 0; i < CALLS; i++) {
            call(random.nextInt(34));
        }
        is("digest()", x.digest(), m.digest());
    }

    private void is(String call, long got, long want) {
        due.is(run + call, got, want);
    }

    /** Mostly from 0 to most; now and then just beyond, or far from it. */
    private int upTo(int most) {
        switch (random.nextInt(40)) {
            case 0:
                return -1;
            case 1:
                return most + 1;
            case 2:
                return random.nextInt();
            case 3:
                return most;
            case 4:
                return 0;
            default:
                return random.nextInt(most + 1);
        }
    }

    private void call(int which) {
        if (which < 8) {
            stoneCall(which);
        } else if (which < 18) {
            luckCall(which);
        } else if (which < 26) {
            guardCall(which);
        } else {
            sheetCall(which);
        }
    }

    private void typeWhole() {
        x.wipe();
        m.wipe();
        int stones = random.nextInt(10);
        for (int i = 0; i < stones; i++) {
            typed('0' + random.nextInt(8));
            typed(random.nextInt(4) == 0 ? 'f' : 'r');
        }
    }

    private void typed(int b) {
        is("type(" + b + ")", x.type(b), m.type(b));
    }

    private void newEvent() {
        int last = m.events.isEmpty() ? 0 : m.events.get(m.events.size() - 1).night();
        int night = random.nextInt(30) == 0 ? upTo(199) : Math.min(199, last + random.nextInt(8));
        int kind = random.nextInt(2) == 0 ? 0 : upTo(5);
        int stone = random.nextInt(5) == 0 ? upTo(8) : random.nextInt(Math.max(1, m.stones()));
        int house = upTo(7);
        int knowing = kind == 0 || random.nextInt(20) == 0 ? upTo(9) : 0;
        String call = "event(" + kind + ", " + night + ", " + stone + ", " + house + ", " + knowing + ")";
        is(call, x.event(kind, night, stone, house, knowing), m.event(kind, night, stone, house, knowing));
    }

    private void stoneCall(int which) {
        int a = upTo(8);
        int b = upTo(1);
        switch (which) {
            case 0:
                typed(random.nextInt(3) == 0 ? upTo(255) : "01234567rf".charAt(random.nextInt(10)));
                break;
            case 1:
                if (random.nextInt(6) == 0 || m.stones() == 0) {
                    typeWhole();
                }
                break;
            case 2:
                is("fault()", x.fault(), m.fault());
                break;
            case 3:
                is("stone(" + a + ", " + b + ")", x.stone(a, b), m.stone(a, b));
                break;
            case 4:
                int v = random.nextInt(2) == 0 ? upTo(99) : 1 + random.nextInt(6);
                is("lasts(" + v + ")", x.lasts(v), m.lasts(v));
                break;
            case 5:
                if (random.nextInt(3) == 0) {
                    is("undo()", x.undo(), m.undo());
                }
                break;
            default:
                newEvent();
        }
    }

    private void luckCall(int which) {
        int house = upTo(7);
        int night = random.nextInt(2) == 0 ? upTo(299) : upTo(60);
        int what = upTo(2);
        int other = upTo(299);
        String two = "(" + house + ", " + night + ", ";
        switch (which) {
            case 8:
                is("at" + two + what + ")", x.at(house, night, what), m.at(house, night, what));
                break;
            case 9:
                is("luck" + two + what + ")", x.luck(house, night, what), m.luck(house, night, what));
                break;
            case 10:
                int who = random.nextInt(3) == 0 ? -1 : house;
                is("days(" + who + ", " + night + ", " + other + ")", x.days(who, night, other), m.days(who, night, other));
                break;
            case 11:
                is("led" + two + what + ")", x.led(house, night, what), m.led(house, night, what));
                break;
            case 12:
                int event = upTo(Math.max(0, m.events.size() - 1));
                is("without(" + event + ", " + other + ")", x.without(event, other), m.without(event, other));
                break;
            case 13:
                newBook(house, night);
                break;
            case 14:
                if (random.nextInt(5) == 0) {
                    is("forget()", x.forget(), m.forget());
                }
                break;
            case 15:
                int part = upTo(3);
                is("fitting(" + part + ")", x.fitting(part), m.fitting(part));
                break;
            case 16:
                letsCall(random.nextInt(20) == 0 ? upTo(3) : 1 + random.nextInt(2));
                break;
            default:
                int w = upTo(30);
                int n = upTo(200);
                is("robs(" + w + ", " + n + ", " + what + ")", x.robs(w, n, what), m.robs(w, n, what));
        }
    }

    /** Mostly what would come out with some of the STONES forged, so that sets are found. */
    private void newBook(int house, int night) {
        int eggs = upTo(19);
        int told = m.luck(house, night, 1);
        if (told > 0 && random.nextInt(6) != 0) {
            eggs = Math.max(1, told - 2 * random.nextInt(2));
        }
        is("book(" + house + ", " + night + ", " + eggs + ")", x.book(house, night, eggs), m.book(house, night, eggs));
    }

    private void letsCall(int n) {
        int last = m.events.isEmpty() ? 0 : m.events.get(m.events.size() - 1).night();
        int night = random.nextInt(8) == 0 ? upTo(199) : Math.min(199, last + random.nextInt(6));
        int what = upTo(1);
        is("lets(" + night + ", " + n + ", " + what + ")", x.lets(night, n, what), m.lets(night, n, what));
    }

    private void letsOfThreeNights() {
        typeWhole();
        int lasts = 1 + random.nextInt(5);
        is("lasts(" + lasts + ")", x.lasts(lasts), m.lasts(lasts));
        int events = random.nextInt(20);
        for (int i = 0; i < events; i++) {
            newEvent();
        }
        for (int i = 0; i < 3; i++) {
            letsCall(3);
        }
    }

    private void guardCall(int which) {
        int house = upTo(7);
        int n = upTo(12);
        int what = upTo(1);
        switch (which) {
            case 18:
            case 19:
                int v = upTo(16);
                is("guard(" + house + ", " + v + ")", x.guard(house, v), m.guard(house, v));
                break;
            case 20:
                is("chance(" + house + ", " + n + ", " + what + ")", x.chance(house, n, what), m.chance(house, n, what));
                break;
            case 21:
                is("waits(" + house + ", " + what + ")", x.waits(house, what), m.waits(house, what));
                break;
            case 22:
                int c = upTo(100);
                is("careless(" + n + ", " + c + ")", x.careless(n, c), m.careless(n, c));
                break;
            case 23:
                int seed = random.nextInt();
                int nights = upTo(200);
                is("thief(" + house + ", " + seed + ", " + nights + ")", x.thief(house, seed, nights),
                        m.thief(house, seed, nights));
                break;
            case 24:
                is("judged()", x.judged(), m.judged());
                break;
            default:
                int k = upTo(8);
                is("count(" + k + ")", x.count(k), m.count(k));
        }
    }

    private void sheetCall(int which) {
        int s = upTo(3);
        int form = random.nextInt(3) == 0 || s < 0 || s > 3 || m.sheets[s] == null ? upTo(2) : m.sheets[s].form;
        int i = upTo(60);
        switch (which) {
            case 26:
                int n = random.nextBoolean() ? upTo(60) : upTo(6);
                is("sheet(" + s + ", " + form + ", " + n + ")", x.sheet(s, form, n), m.sheet(s, form, n));
                break;
            case 27:
                if (random.nextInt(5) == 0) {
                    is("lose(" + s + ")", x.lose(s), m.lose(s));
                }
                break;
            case 28:
                int v = random.nextInt(3) == 0 ? random.nextInt() : upTo(200);
                is("lay(" + s + ", " + form + ", " + i + ", " + v + ")", x.lay(s, form, i, v), m.lay(s, form, i, v));
                break;
            case 29:
            case 30:
                is("get(" + s + ", " + form + ", " + i + ")", x.get(s, form, i), m.get(s, form, i));
                break;
            case 31:
                int t = random.nextInt(3) == 0 ? s : upTo(3);
                int j = upTo(20);
                int k = upTo(12);
                int from = upTo(20);
                is("copy(" + s + ", " + from + ", " + t + ", " + j + ", " + k + ")", x.copy(s, from, t, j, k),
                        m.copy(s, from, t, j, k));
                break;
            case 32:
                int house = upTo(7);
                int night = upTo(299);
                is("write(" + house + ", " + night + ", " + s + ")", x.write(house, night, s), m.write(house, night, s));
                break;
            default:
                readCall(s);
        }
    }

    /** Lays some EVENTS that may be into a sheet first, so that read() has something to take. */
    private void readCall(int s) {
        if (s >= 0 && s <= 3 && m.sheets[s] != null && random.nextInt(3) == 0) {
            int night = m.events.isEmpty() ? 0 : m.events.get(m.events.size() - 1).night();
            int form = m.sheets[s].form;
            for (int i = 0; i < Math.min(15, m.sheets[s].items.length); i++) {
                int v = i % 5 == 1 ? Math.min(199, night + i / 5) : i % 5 == 0 || i % 5 == 4 ? 0 : random.nextInt(8);
                is("lay(" + s + ", " + form + ", " + i + ", " + v + ")", x.lay(s, form, i, v), m.lay(s, form, i, v));
            }
        }
        is("read(" + s + ")", x.read(s), m.read(s));
    }
}
