/** Promises 6 to 10: lasts, event, read, undo, judged. */
public final class EventsTest {
    private static final Due due = new Due("EventsTest");

    public static void main(String[] args) {
        lasts();
        event();
        eventNights();
        read();
        readStops();
        readFills();
        undo();
        judged();
        due.end();
    }

    private static void lasts() {
        LuckyStolen x = Due.with("0r");
        x.event(0, 10, 0, 1, 0);
        due.is("lasts(1)", x.lasts(1), 30);
        due.is("at(0, 10, 2)", x.at(0, 10, 2), 1);
        due.is("at(0, 11, 2)", x.at(0, 11, 2), 0);
        due.is("lasts(99)", x.lasts(99), 1);
        due.is("at(0, 108, 2)", x.at(0, 108, 2), 1);
        due.is("at(0, 109, 2)", x.at(0, 109, 2), 0);
        due.is("lasts(0)", x.lasts(0), -2);
        due.is("lasts(100)", x.lasts(100), -2);
        due.is("lasts(-1)", x.lasts(-1), -2);
        due.is("count(5)", x.count(5), 99);
    }

    private static void event() {
        LuckyStolen x = new LuckyStolen();
        due.is("kind -1", x.event(-1, 0, 0, 0, 0), -2);
        due.is("kind 6", x.event(6, 0, 0, 0, 0), -2);
        due.is("night -1", x.event(0, -1, 0, 0, 0), -2);
        due.is("night 200", x.event(0, 200, 0, 0, 0), -2);
        due.is("stone -1", x.event(0, 0, -1, 0, 0), -2);
        due.is("stone 9", x.event(0, 0, 9, 0, 0), -2);
        due.is("house -1", x.event(0, 0, 0, -1, 0), -2);
        due.is("house 8", x.event(0, 0, 0, 8, 0), -2);
        due.is("knowing -1", x.event(0, 0, 0, 0, -1), -2);
        due.is("knowing 10", x.event(0, 0, 0, 0, 10), -2);
        for (int kind = 1; kind <= 5; kind++) {
            due.is("knowing 1 of kind " + kind, x.event(kind, 0, 0, 0, 1), -2);
        }
        due.is("count(2) after refusals", x.count(2), 0);
        due.is("a theft without stones", x.event(0, 0, 8, 7, 9), 1);
        for (int kind = 1; kind <= 5; kind++) {
            due.is("kind " + kind, x.event(kind, 0, 8, 7, 0), kind + 1);
        }
        for (int i = 7; i <= 40; i++) {
            due.is("event " + i, x.event(0, 50, 0, 0, 0), i);
        }
        due.is("a 41st", x.event(0, 50, 0, 0, 0), -4);
        due.is("a bad 41st", x.event(0, 49, 0, 0, 0), -2);
        due.is("count(2)", x.count(2), 40);
    }

    private static void eventNights() {
        LuckyStolen x = new LuckyStolen();
        due.is("night 8", x.event(1, 8, 0, 0, 0), 1);
        due.is("night 7", x.event(1, 7, 0, 0, 0), -2);
        due.is("night 8 again", x.event(1, 8, 0, 0, 0), 2);
        due.is("night 199", x.event(1, 199, 0, 0, 0), 3);
        due.is("night 198", x.event(1, 198, 0, 0, 0), -2);
        x.undo();
        due.is("night 198 behind undo", x.event(1, 198, 0, 0, 0), 3);
    }

    private static void layAll(LuckyStolen x, int s, int form, int... items) {
        x.sheet(s, form, items.length);
        for (int i = 0; i < items.length; i++) {
            x.lay(s, form, i, items[i]);
        }
    }

    private static void read() {
        LuckyStolen x = Due.with("0r1r");
        due.is("read(-1)", x.read(-1), -2);
        due.is("read(4)", x.read(4), -2);
        due.is("count(8) before any", x.count(8), 0);
        due.is("read(2) LOST", x.read(2), -11);
        due.is("count(8)", x.count(8), 1);
        x.event(0, 2, 0, 3, 0);
        layAll(x, 2, 0, 0, 3, 1, 4, 1, 5, 4, 0, 3, 0, 1, 5, 0, 1);
        due.is("read(2): two whole ones", x.read(2), 2);
        due.is("count(2): they come behind", x.count(2), 3);
        due.is("judged()", x.judged(), -1);
        due.is("led(4, 3, 0)", x.led(4, 3, 0), 1);
        due.is("at(0, 3, 1)", x.at(0, 3, 1), 1);
        due.is("at(0, 4, 1): thanked", x.at(0, 4, 1), 0);
        x.sheet(3, 2, 0);
        due.is("read(3) of no items", x.read(3), 0);
        x.sheet(3, 2, 4);
        due.is("read(3) of four items", x.read(3), 0);
        due.is("get(2, 0, 1): the sheet stays", x.get(2, 0, 1), 3);
    }

    private static void readStops() {
        LuckyStolen x = Due.with("0r1r");
        layAll(x, 0, 2, 0, 9, 0, 2, 0, 0, 9, 0, 8, 0, 0, 9, 1, 3, 0);
        due.is("read(0) up to a bad one", x.read(0), 1);
        due.is("count(2)", x.count(2), 1);
        due.is("read(0) again", x.read(0), 1);
        due.is("count(2) again", x.count(2), 2);
        due.is("judged()", x.judged(), 1);
        layAll(x, 0, 2, 0, 8, 0, 2, 0);
        due.is("read(0) of an earlier night", x.read(0), 0);
        layAll(x, 1, 1, 0, -300, 0, 0, 0);
        due.is("read(1) of a night below 0", x.read(1), 0);
        layAll(x, 1, 0, 0, 199, 0, 0, 0);
        due.is("read(1): 199 is -57 as a byte", x.read(1), 0);
        layAll(x, 1, 1, 0, 199, 0, 0, 0);
        due.is("read(1): 199 as a short", x.read(1), 1);
    }

    private static void readFills() {
        LuckyStolen x = new LuckyStolen();
        for (int i = 0; i < 35; i++) {
            x.event(1, 0, 0, 0, 0);
        }
        x.sheet(0, 2, 60);
        due.is("read(0) into room for five", x.read(0), 5);
        due.is("count(2)", x.count(2), 40);
        due.is("read(0) when full", x.read(0), 0);
    }

    private static void undo() {
        LuckyStolen x = Due.with("0r");
        due.is("undo() of none", x.undo(), -3);
        x.event(0, 1, 0, 1, 0);
        x.event(5, 1, 0, 1, 0);
        due.is("luck(1, 1, 0) thanked", x.luck(1, 1, 0), 0);
        due.is("undo()", x.undo(), 1);
        due.is("luck(1, 1, 0)", x.luck(1, 1, 0), 1);
        due.is("undo() of the first", x.undo(), 0);
        due.is("undo() of none again", x.undo(), -3);
        due.is("event(0, 0, 0, 1, 0)", x.event(0, 0, 0, 1, 0), 1);
    }

    /** What judged() says of a last event behind: stone 0 in house 0, stone 1 in the field, stone 2 not there. */
    private static void law(int kind, int stone, int house, boolean lawful) {
        LuckyStolen x = Due.with("0r1r");
        x.event(3, 0, 1, 1, 0);
        x.event(kind, 1, stone, house, 0);
        String name = "kind " + kind + ", stone " + stone + ", house " + house;
        due.is(name + ": judged()", x.judged(), lawful ? -1 : 1);
        due.is(name + ": count(3)", x.count(3), lawful ? 0 : 1);
    }

    private static void judged() {
        for (int kind = 0; kind <= 2; kind++) {
            law(kind, 0, 0, false);
            law(kind, 0, 1, true);
            law(kind, 1, 0, false);
            law(kind, 1, 1, false);
            law(kind, 2, 0, false);
        }
        law(3, 0, 0, true);
        law(3, 0, 1, false);
        law(3, 1, 1, false);
        law(3, 2, 0, false);
        law(4, 0, 0, false);
        law(4, 0, 1, false);
        law(4, 1, 0, true);
        law(4, 1, 1, true);
        law(4, 2, 1, false);
        law(5, 0, 0, true);
        law(5, 0, 1, false);
        law(5, 1, 1, false);
        law(5, 2, 0, false);
        LuckyStolen x = Due.with("0r");
        x.event(0, 0, 0, 0, 0);
        x.event(1, 0, 0, 0, 0);
        x.event(0, 0, 0, 1, 0);
        due.is("judged() tells the first", x.judged(), 0);
        due.is("count(3)", x.count(3), 2);
        due.is("at(0, 0, 0): only the third did anything", x.at(0, 0, 0), 1);
    }
}
