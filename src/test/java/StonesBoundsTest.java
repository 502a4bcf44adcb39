/** The boundary cases of promises 1 to 5 (a new object, type, wipe, fault, stone) and of the text in "What it is". */
public final class StonesBoundsTest {
    private static final Due due = new Due("StonesBoundsTest");
    private static final Refusals refusals = new Refusals(due);

    public static void main(String[] args) {
        newHasNoStones();
        newHasNoEvents();
        newHasLostSheets();
        newHasLasts();
        newHasGuards();
        newHasNoFinding();
        newHasNoBooks();
        lastOfManyCalls();
        typeTakesEveryByte();
        typeRefusesNoByte();
        typeIsFull();
        typeBadAheadOfFull();
        wipeOfNothing();
        wipeOfAll();
        wipeLeavesTheRest();
        emptyTextIsWell();
        textNotEnded();
        figuresOfHouses();
        letters();
        tenthStone();
        faultEndsAllStones();
        stoneNumbers();
        stoneWhat();
        due.end();
    }

    /** "No STONES" */
    private static void newHasNoStones() {
        LuckyStolen x = new LuckyStolen();
        due.is("new: count(0)", x.count(0), 0);
        due.is("new: count(1)", x.count(1), 0);
        due.is("new: count(7)", x.count(7), 0);
        due.is("new: fault()", x.fault(), -1);
        due.is("new: stone(0, 0)", x.stone(0, 0), -2);
        due.is("new: at(0, 0, 0)", x.at(0, 0, 0), -2);
        due.is("new: wipe()", x.wipe(), 0);
    }

    /** "no EVENTS" */
    private static void newHasNoEvents() {
        LuckyStolen x = new LuckyStolen();
        due.is("new: count(2)", x.count(2), 0);
        due.is("new: count(3)", x.count(3), 0);
        due.is("new: count(4)", x.count(4), 0);
        due.is("new: judged()", x.judged(), -1);
        due.is("new: without(0, 0)", x.without(0, 0), -10002);
        due.is("new: undo()", x.undo(), -3);
    }

    /** "all SHEETS are LOST" */
    private static void newHasLostSheets() {
        for (int s = 0; s < 4; s++) {
            int sheet = s;
            refusals.found("lose(" + s + ")", x -> x.lose(sheet), Refusals.NULL, State.NEW);
        }
    }

    /** "LASTS (... 30 at first)" */
    private static void newHasLasts() {
        LuckyStolen x = new LuckyStolen();
        due.is("new: count(5)", x.count(5), 30);
        due.is("new: lasts(30)", x.lasts(30), 30);
    }

    /** "GUARD of a HOUSE (... 8 at first)" */
    private static void newHasGuards() {
        LuckyStolen x = new LuckyStolen();
        for (int house = 0; house < 8; house++) {
            due.is("new: guard(" + house + ", 8)", x.guard(house, 8), 8);
        }
    }

    /** "the latest FINDING (0 before any)" */
    private static void newHasNoFinding() {
        due.is("new: count(8)", new LuckyStolen().count(8), 0);
    }

    /** There are no BOOKS yet. */
    private static void newHasNoBooks() {
        LuckyStolen x = new LuckyStolen();
        due.is("new: count(6)", x.count(6), 0);
        due.is("new: forget()", x.forget(), 0);
    }

    /** "An object is used for at most 512 calls": the last one is answered like the first. */
    private static void lastOfManyCalls() {
        LuckyStolen x = new LuckyStolen();
        for (int call = 1; call <= 511; call++) {
            due.is("call " + call, x.type('0'), call <= 30 ? call : -4);
        }
        due.is("call 512", x.wipe(), 30);
    }

    /** "A byte (0 to 255)" */
    private static void typeTakesEveryByte() {
        for (int b = 0; b <= 255; b++) {
            LuckyStolen x = new LuckyStolen();
            due.is("type(" + b + ")", x.type(b), 1);
            due.is("fault() of " + b, x.fault(), b >= '0' && b <= '7' ? 1 : 0);
            LuckyStolen y = Due.with("0");
            due.is("type(" + b + ") behind 0", y.type(b), 2);
            due.is("fault() of 0 and " + b, y.fault(), b == 'r' || b == 'f' ? -1 : 1);
        }
    }

    /** "BAD": what is no byte, also one that would be a good sign if its upper bits were lost. */
    private static void typeRefusesNoByte() {
        for (int b : Refusals.outside(0, 255)) {
            refusals.bad("type(" + b + ")", x -> x.type(b));
        }
        refusals.bad("type(256 + '0')", x -> x.type(256 + '0'));
        refusals.bad("type('0' - 256)", x -> x.type('0' - 256));
    }

    /** "a text of up to 30 bytes"; "FULL" */
    private static void typeIsFull() {
        LuckyStolen x = new LuckyStolen();
        for (int i = 1; i <= 30; i++) {
            due.is("byte " + i, x.type(i % 2 == 1 ? '0' : 'r'), i);
            due.is("count(1) behind byte " + i, x.count(1), i);
        }
        due.is("byte 31", x.type('0'), -4);
        refusals.refused("type('0')", y -> y.type('0'), Refusals.FULL, State.FAULTY);
        refusals.refused("type(0)", y -> y.type(0), Refusals.FULL, State.FAULTY);
        refusals.refused("type(255)", y -> y.type(255), Refusals.FULL, State.FAULTY);
        due.is("wipe() of a full text", x.wipe(), 30);
        due.is("type('0') behind wipe()", x.type('0'), 1);
    }

    /** "the first that fits, in the order told": BAD, then FULL. */
    private static void typeBadAheadOfFull() {
        LuckyStolen x = State.FAULTY.anew();
        due.is("a good byte for a full text", x.type(255), -4);
        due.is("a bad byte for a full text", x.type(256), -2);
        due.is("a bad byte below for a full text", x.type(-1), -2);
    }

    /** "STONES are empty: how many bytes they had." */
    private static void wipeOfNothing() {
        LuckyStolen x = new LuckyStolen();
        due.is("wipe() of a new object", x.wipe(), 0);
        due.is("wipe() again", x.wipe(), 0);
        due.is("fault() behind it", x.fault(), -1);
        due.is("type('0') behind it", x.type('0'), 1);
        due.is("wipe() of one byte", x.wipe(), 1);
        due.is("wipe() of none", x.wipe(), 0);
    }

    /** The same, of a text that is full and has a FAULT. */
    private static void wipeOfAll() {
        LuckyStolen x = State.FAULTY.anew();
        due.is("wipe() of 30 bytes", x.wipe(), 30);
        due.is("count(1)", x.count(1), 0);
        due.is("fault()", x.fault(), -1);
        Due.type(x, "7f");
        due.is("fault() of 7f", x.fault(), -1);
        due.is("count(0) of 7f: nothing of the old text", x.count(0), 1);
        due.is("stone(0, 0)", x.stone(0, 0), 7);
        due.is("stone(1, 0)", x.stone(1, 0), -2);
    }

    /** It says that STONES are empty, and nothing of all the rest. */
    private static void wipeLeavesTheRest() {
        LuckyStolen x = State.BUSY.anew();
        due.is("wipe()", x.wipe(), 10);
        due.is("count(2): EVENTS stay", x.count(2), 7);
        due.is("count(5): LASTS stays", x.count(5), 12);
        due.is("count(6): BOOKS stay", x.count(6), 2);
        due.is("count(8): the FINDING stays", x.count(8), 3);
        due.is("guard(3, 1): GUARDS stay", x.guard(3, 1), 1);
        due.is("get(0, 0, 6): SHEETS stay", x.get(0, 0, 6), 106);
        due.is("judged(): no STONE is there", x.judged(), 0);
        Due.type(x, "0r1f2r3r4f");
        due.is("digest() with the same text again", x.digest(), State.BUSY.anew().digest());
    }

    private static void faultOf(String text, int want, int stones) {
        LuckyStolen x = Due.with(text);
        due.is("fault() of '" + text + "'", x.fault(), want);
        due.is("count(0) of '" + text + "'", x.count(0), stones);
        due.is("count(1) of '" + text + "'", x.count(1), text.length());
    }

    /** "an empty text is well" */
    private static void emptyTextIsWell() {
        faultOf("", -1, 0);
    }

    /** "of one that is not ended, its end" */
    private static void textNotEnded() {
        for (int length = 1; length < 18; length += 2) {
            faultOf(State.NINE.substring(0, length), length, 0);
            faultOf(State.NINE.substring(0, length + 1), -1, (length + 1) / 2);
        }
    }

    /** "the figure of a HOUSE (0 to 7)", in the first STONE and in the last; else its place is the FAULT. */
    private static void figuresOfHouses() {
        String eight = State.NINE.substring(0, 16);
        for (char house = '0'; house <= '7'; house++) {
            faultOf(house + "r", -1, 1);
            faultOf(eight + house + "f", -1, 9);
        }
        char[] others = {'0' - 1, '7' + 1, '9', 'r', 'f', 'a', ' ', 0, 7, 255};
        for (char other : others) {
            faultOf(other + "r", 0, 0);
            faultOf(other + "", 0, 0);
            faultOf("7f" + other, 2, 0);
            faultOf(eight + other + "f", 16, 0);
        }
    }

    /** "a letter: r real, f forged", in the first STONE and in the last; else its place is the FAULT. */
    private static void letters() {
        String eight = State.NINE.substring(0, 16);
        char[] others = {'q', 's', 'e', 'g', 'R', 'F', '0', ' ', 0, 255};
        for (char other : others) {
            faultOf("0" + other, 1, 0);
            faultOf("0" + other + "1r", 1, 0);
            faultOf(eight + "0" + other, 17, 0);
        }
        due.is("stone(0, 1) of 0r", Due.with("0r").stone(0, 1), 0);
        due.is("stone(0, 1) of 0f", Due.with("0f").stone(0, 1), 1);
        due.is("stone(8, 1) of a ninth r", Due.with(eight + "0r").stone(8, 1), 0);
        due.is("stone(8, 1) of a ninth f", Due.with(eight + "0f").stone(8, 1), 1);
    }

    /** "9 at most"; "or of the first byte of a tenth" */
    private static void tenthStone() {
        faultOf(State.NINE, -1, 9);
        faultOf(State.NINE + "1", 18, 0);
        faultOf(State.NINE + "x", 18, 0);
        faultOf(State.NINE + "1r", 18, 0);
        faultOf(State.NINE + "1x", 18, 0);
        faultOf(State.NINE + "1r2r3r4r5r6r", 18, 0);
        faultOf("0r1r2f3r4r5f6r7r0x1r", 17, 0);
        faultOf("xr1r2f3r4r5f6r7r0r1r", 0, 0);
    }

    /** "With a FAULT there are none." */
    private static void faultEndsAllStones() {
        LuckyStolen x = Due.with(State.NINE);
        due.is("count(0) of nine", x.count(0), 9);
        due.is("count(7) of nine", x.count(7), 2);
        x.type('1');
        due.is("count(0) with a FAULT", x.count(0), 0);
        due.is("count(7) with a FAULT", x.count(7), 0);
        for (int s = 0; s <= 9; s++) {
            due.is("stone(" + s + ", 0) with a FAULT", x.stone(s, 0), -2);
            due.is("at(" + s + ", 0, 0) with a FAULT", x.at(s, 0, 0), -2);
        }
        due.is("fitting(0): the set of none", x.fitting(0), 1);
        due.is("lets(0, 3, 0): nothing to steal", x.lets(0, 3, 0), 0);
    }

    /** "Of a STONE ... BAD": the last that is there, the first that is not. */
    private static void stoneNumbers() {
        for (int stones = 0; stones <= 9; stones++) {
            LuckyStolen x = Due.with(State.NINE.substring(0, 2 * stones));
            for (int s = 0; s < stones; s++) {
                due.is(stones + " stones: stone(" + s + ", 0)", x.stone(s, 0), s % 8);
                due.is(stones + " stones: stone(" + s + ", 1)", x.stone(s, 1), s == 2 || s == 5 ? 1 : 0);
            }
            due.is(stones + " stones: the next, 0", x.stone(stones, 0), -2);
            due.is(stones + " stones: the next, 1", x.stone(stones, 1), -2);
            due.is(stones + " stones: stone(-1, 0)", x.stone(-1, 0), -2);
        }
        for (int s : Refusals.outside(0, 8)) {
            refusals.bad("stone(" + s + ", 0)", x -> x.stone(s, 0));
            refusals.bad("stone(" + s + ", 1)", x -> x.stone(s, 1));
        }
        refusals.refused("stone(5, 0) of five", x -> x.stone(5, 0), Refusals.BAD, State.BUSY);
        refusals.refused("stone(0, 0) of none", x -> x.stone(0, 0), Refusals.BAD, State.NEW, State.FAULTY);
    }

    /** "(what = 0), whether it is forged (1). BAD." */
    private static void stoneWhat() {
        for (int what : Refusals.outside(0, 1)) {
            refusals.bad("stone(0, " + what + ")", x -> x.stone(0, what));
            refusals.bad("stone(8, " + what + ")", x -> x.stone(8, what));
        }
    }
}
