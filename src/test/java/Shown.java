import java.util.ArrayList;
import java.util.List;

/** All that calls show of an object, in parts: each part is asked of an object of its own, in at most 400 calls. */
final class Shown {
    static final int PARTS = 6;
    private static final int[] NIGHTS = {0, 1, 2, 7, 13, 18, 20, 29, 60, 99, 150, 199, 250, 299};

    private final LuckyStolen x;
    private final List<String> answers = new ArrayList<>();

    private Shown(LuckyStolen x) {
        this.x = x;
    }

    static List<String> part(int part, LuckyStolen x) {
        Shown shown = new Shown(x);
        switch (part) {
            case 0 -> shown.counts();
            case 1 -> shown.stones();
            case 2 -> shown.houses();
            case 3 -> shown.eventsAndGuards();
            case 4 -> shown.sheets();
            default -> shown.whatGoesOn();
        }
        return shown.answers;
    }

    private void add(String call, long answer) {
        answers.add(call + " = " + answer);
    }

    private void counts() {
        for (int what = 0; what <= 7; what++) {
            add("count " + what, x.count(what));
        }
        add("fault", x.fault());
        add("judged", x.judged());
        for (int s = 0; s <= 9; s++) {
            add("house of " + s, x.stone(s, 0));
            add("forged " + s, x.stone(s, 1));
        }
        for (int what = 0; what <= 3; what++) {
            add("fitting " + what, x.fitting(what));
            add("robs " + what, x.robs(7, 50, what));
            add("robs long " + what, x.robs(30, 200, what));
        }
        for (int n = 1; n <= 3; n++) {
            add("lets of " + n, x.lets(199, n, 0));
            add("lets first of " + n, x.lets(199, n, 1));
        }
        add("careless", x.careless(5, 40));
        add("digest", x.digest());
    }

    private void stones() {
        for (int s = 0; s < 9; s++) {
            for (int night : NIGHTS) {
                for (int what = 0; what <= 2; what++) {
                    add("at " + s + " " + night + " " + what, x.at(s, night, what));
                }
            }
        }
    }

    private void houses() {
        for (int house = 0; house < 8; house++) {
            for (int night : NIGHTS) {
                add("luck " + house + " " + night, x.luck(house, night, 0));
                add("led " + house + " " + night, x.led(house, night, 0));
            }
            add("days of " + house, x.days(house, 0, 299));
        }
        add("days of all", x.days(-1, 0, 299));
    }

    private void eventsAndGuards() {
        for (int e = 0; e <= 40; e++) {
            add("without " + e, x.without(e, 299));
            add("without early " + e, x.without(e, 60));
        }
        for (int house = 0; house < 8; house++) {
            for (int what = 0; what <= 1; what++) {
                add("chance " + house + " " + what, x.chance(house, 12, what));
                add("waits " + house + " " + what, x.waits(house, what));
            }
            for (int seed = 0; seed < 5; seed++) {
                add("thief " + house + " " + seed, x.thief(house, seed, 200));
            }
            add("guard " + house, x.guard(house, 5));
        }
        add("lasts", x.lasts(5));
    }

    private void sheets() {
        for (int s = 0; s < 4; s++) {
            for (int form = 0; form <= 2; form++) {
                x.get(s, form, 60);
                add("finding of " + s + " as " + form, x.count(8));
                if (x.count(8) == 2) {
                    for (int i = 0; i < 60; i++) {
                        add("item " + s + " " + i, x.get(s, form, i));
                    }
                }
            }
            add("lose " + s, x.lose(s));
        }
    }

    /** Goes on from there, so that what lies hidden comes to light. */
    private void whatGoesOn() {
        for (int s = 0; s < 4; s++) {
            add("read " + s, x.read(s));
        }
        add("type", x.type('5'));
        add("type", x.type('r'));
        add("book", x.book(3, 5, 3));
        add("fitting", x.fitting(0));
        add("forget", x.forget());
        add("forget again", x.forget());
        add("event", x.event(0, 199, 0, 1, 0));
        for (int e = 0; e <= 41; e++) {
            add("undo", x.undo());
            add("judged", x.judged());
            add("true thefts", x.count(4));
            add("days of all", x.days(-1, 0, 299));
        }
        add("event", x.event(0, 0, 0, 1, 0));
        add("days of all", x.days(-1, 0, 299));
        add("fault", x.fault());
        add("wipe", x.wipe());
        Due.type(x, "0r1f");
        add("stone", x.stone(1, 1));
        add("count", x.count(1));
        add("digest", x.digest());
    }
}
