/** Promises 1 to 5: a new object, type, wipe, fault, stone. */
public final class StonesTest {
    private static final Due due = new Due("StonesTest");

    public static void main(String[] args) {
        newObject();
        type();
        wipe();
        fault();
        stone();
        due.end();
    }

    private static void newObject() {
        LuckyStolen x = new LuckyStolen();
        for (int what = 0; what <= 8; what++) {
            due.is("new: count(" + what + ")", x.count(what), what == 5 ? 30 : 0);
        }
        due.is("new: fault()", x.fault(), -1);
        due.is("new: judged()", x.judged(), -1);
        for (int s = 0; s < 4; s++) {
            due.is("new: lose(" + s + ")", x.lose(s), -11);
        }
        for (int house = 0; house < 8; house++) {
            due.is("new: guard(" + house + ", 8)", x.guard(house, 8), 8);
        }
    }

    private static void type() {
        LuckyStolen x = new LuckyStolen();
        due.is("type(-1)", x.type(-1), -2);
        due.is("type(256)", x.type(256), -2);
        due.is("count(1) after refusals", x.count(1), 0);
        due.is("type(0)", x.type(0), 1);
        due.is("type(255)", x.type(255), 2);
        for (int i = 3; i <= 30; i++) {
            due.is("type, byte " + i, x.type('0'), i);
        }
        due.is("type('0') when full", x.type('0'), -4);
        due.is("type(256) when full", x.type(256), -2);
        due.is("count(1) when full", x.count(1), 30);
    }

    private static void wipe() {
        LuckyStolen x = Due.with("0r1f");
        x.event(0, 3, 0, 5, 0);
        x.book(0, 0, 1);
        x.lasts(7);
        due.is("wipe()", x.wipe(), 4);
        due.is("wipe() again", x.wipe(), 0);
        due.is("count(0)", x.count(0), 0);
        due.is("count(1)", x.count(1), 0);
        due.is("count(2): EVENTS stay", x.count(2), 1);
        due.is("count(5): LASTS stays", x.count(5), 7);
        due.is("count(6): BOOKS stay", x.count(6), 1);
        due.is("judged() without STONES", x.judged(), 0);
        Due.type(x, "2r");
        due.is("judged() with STONES again", x.judged(), -1);
        due.is("at(0, 3, 0)", x.at(0, 3, 0), 5);
    }

    private static void faultOf(String text, int want, int stones) {
        LuckyStolen x = Due.with(text);
        due.is("fault() of " + text, x.fault(), want);
        due.is("count(0) of " + text, x.count(0), stones);
    }

    private static void fault() {
        faultOf("", -1, 0);
        faultOf("0", 1, 0);
        faultOf("0r", -1, 1);
        faultOf("7f", -1, 1);
        faultOf("8r", 0, 0);
        faultOf("/r", 0, 0);
        faultOf("0R", 1, 0);
        faultOf("r0", 0, 0);
        faultOf("00", 1, 0);
        faultOf(" 0r", 0, 0);
        faultOf("0r 1f", 2, 0);
        faultOf("0r1", 3, 0);
        faultOf("0r1f2", 5, 0);
        faultOf("0r1f2q3x", 5, 0);
        faultOf("0r\u00ff", 2, 0);
        String nine = "0r1r2r3r4f5f6f7f0r";
        faultOf(nine, -1, 9);
        faultOf(nine.substring(0, 17), 17, 0);
        faultOf(nine + "1", 18, 0);
        faultOf(nine + "x", 18, 0);
        faultOf(nine + "1r", 18, 0);
        faultOf(nine + "1r2r3r4r5r6r", 18, 0);
        faultOf("0r1r2r3x4f5f6f7f0r1r", 7, 0);
    }

    private static void stone() {
        LuckyStolen x = Due.with("0r1r2r3r4f5f6f7f0r");
        int[] houses = {0, 1, 2, 3, 4, 5, 6, 7, 0};
        for (int s = 0; s < 9; s++) {
            due.is("stone(" + s + ", 0)", x.stone(s, 0), houses[s]);
            due.is("stone(" + s + ", 1)", x.stone(s, 1), s >= 4 && s <= 7 ? 1 : 0);
        }
        due.is("stone(-1, 0)", x.stone(-1, 0), -2);
        due.is("stone(9, 0)", x.stone(9, 0), -2);
        due.is("stone(0, 2)", x.stone(0, 2), -2);
        due.is("stone(0, -1)", x.stone(0, -1), -2);
        x.event(0, 0, 0, 6, 0);
        due.is("stone(0, 0) behind a theft", x.stone(0, 0), 0);
        x.type('1');
        due.is("stone(0, 0) with a FAULT", x.stone(0, 0), -2);
        LuckyStolen two = Due.with("5f6r");
        due.is("stone(1, 0)", two.stone(1, 0), 6);
        due.is("stone(2, 0)", two.stone(2, 0), -2);
    }
}
