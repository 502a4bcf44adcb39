/** The boundary cases of promises 6 to 10: lasts, event, read, undo, judged. */
public final class EventsBoundsTest {
    private static final Due due = new Due("EventsBoundsTest");
    private static final Refusals refusals = new Refusals(due);

    public static void main(String[] args) {
        lastsNumbers();
        eventKinds();
        eventNights();
        eventNightsNeverFall();
        eventStones();
        eventHouses();
        eventKnowings();
        eventKnowingsOfOthers();
        eventsAreFull();
        eventBadAheadOfFull();
        readSheets();
        readOfLostSheet();
        readWholeOnes();
        readAsLongAsEachMayBe();
        readNightsNeverFall();
        readUpToFull();
        readByForms();
        undoOfNone();
        undoOfAll();
        lawOfStonesThere();
        lawOfOthers();
        againstTheLawDoesNothing();
        judgedFirstAndNone();
        due.end();
    }

    /** "LASTS (1 to 99 nights; 30 at first)"; "what it was. BAD." */
    private static void lastsNumbers() {
        for (int v : Refusals.outside(1, 99)) {
            refusals.bad("lasts(" + v + ")", x -> x.lasts(v));
        }
        LuckyStolen x = new LuckyStolen();
        due.is("lasts(1)", x.lasts(1), 30);
        due.is("count(5)", x.count(5), 1);
        due.is("lasts(99)", x.lasts(99), 1);
        due.is("count(5)", x.count(5), 99);
        due.is("lasts(100)", x.lasts(100), -2);
        due.is("lasts(0)", x.lasts(0), -2);
        due.is("lasts(98)", x.lasts(98), 99);
        due.is("lasts(2)", x.lasts(2), 98);
    }

    private static int firstEvent(int kind, int night, int stone, int house, int knowing) {
        LuckyStolen x = new LuckyStolen();
        int answer = x.event(kind, night, stone, house, knowing);
        due.is("count(2) behind it", x.count(2), 1);
        return answer;
    }

    /** "kind 0 to 5" */
    private static void eventKinds() {
        for (int kind = 0; kind <= 5; kind++) {
            due.is("kind " + kind, firstEvent(kind, 0, 0, 0, 0), 1);
        }
        for (int kind : Refusals.outside(0, 5)) {
            refusals.bad("event of kind " + kind, x -> x.event(kind, 199, 0, 0, 0));
        }
    }

    /** "NIGHTS (0 to 199)" */
    private static void eventNights() {
        due.is("night 0", firstEvent(0, 0, 0, 0, 0), 1);
        due.is("night 199", firstEvent(0, 199, 0, 0, 0), 1);
        for (int night : Refusals.outside(0, 199)) {
            refusals.bad("event in night " + night, x -> x.event(0, night, 0, 0, 0));
        }
    }

    /** "that never fall"; "BAD: also a NIGHT less than the one before" */
    private static void eventNightsNeverFall() {
        refusals.refused("event(0, 17, ..)", x -> x.event(0, 17, 0, 0, 0), Refusals.BAD, State.BUSY);
        refusals.refused("event(0, 0, ..)", x -> x.event(0, 0, 0, 0, 0), Refusals.BAD, State.BUSY);
        refusals.refused("event(5, 4, ..)", x -> x.event(5, 4, 0, 0, 0), Refusals.BAD, State.FAULTY);
        LuckyStolen x = State.BUSY.anew();
        due.is("event in the last one's night", x.event(0, 18, 0, 0, 0), 8);
        due.is("event a night later", x.event(0, 19, 0, 0, 0), 9);
        due.is("event a night ahead of that", x.event(0, 18, 0, 0, 0), -2);
        x.undo();
        due.is("the same behind undo()", x.event(0, 18, 0, 0, 0), 9);
        LuckyStolen y = new LuckyStolen();
        due.is("one against the law in night 199", y.event(4, 199, 8, 0, 0), 1);
        due.is("it counts as the one before", y.event(4, 198, 8, 0, 0), -2);
        due.is("199 once more", y.event(4, 199, 8, 0, 0), 2);
    }

    /** "STONE 0 to 8", whether it is in the text or not */
    private static void eventStones() {
        for (int stone = 0; stone <= 8; stone++) {
            due.is("stone " + stone, firstEvent(1, 0, stone, 0, 0), 1);
        }
        for (int stone : Refusals.outside(0, 8)) {
            refusals.bad("event of stone " + stone, x -> x.event(0, 199, stone, 0, 0));
        }
    }

    /** "HOUSE 0 to 7" */
    private static void eventHouses() {
        for (int house = 0; house <= 7; house++) {
            due.is("house " + house, firstEvent(2, 0, 0, house, 0), 1);
        }
        for (int house : Refusals.outside(0, 7)) {
            refusals.bad("event of house " + house, x -> x.event(0, 199, 0, house, 0));
        }
    }

    /** "KNOWING 0 to 9" */
    private static void eventKnowings() {
        for (int knowing = 0; knowing <= 9; knowing++) {
            due.is("knowing " + knowing, firstEvent(0, 0, 0, 0, knowing), 1);
        }
        for (int knowing : Refusals.outside(0, 9)) {
            refusals.bad("event with knowing " + knowing, x -> x.event(0, 199, 0, 0, knowing));
        }
    }

    /** "0 but for a THEFT" */
    private static void eventKnowingsOfOthers() {
        for (int k = 1; k <= 5; k++) {
            int kind = k;
            due.is("knowing 0 of kind " + kind, firstEvent(kind, 0, 0, 0, 0), 1);
            for (int knowing : Refusals.outside(0, 0)) {
                refusals.bad("kind " + kind + ", knowing " + knowing, x -> x.event(kind, 199, 0, 0, knowing));
            }
            refusals.bad("kind " + kind + ", knowing 9", x -> x.event(kind, 199, 0, 0, 9));
        }
    }

    /** "EVENTS, 40 at most"; "FULL" */
    private static void eventsAreFull() {
        LuckyStolen x = new LuckyStolen();
        for (int e = 1; e <= 40; e++) {
            due.is("event " + e, x.event(0, 3, 0, 0, 0), e);
            due.is("count(2)", x.count(2), e);
        }
        due.is("event 41", x.event(0, 3, 0, 0, 0), -4);
        due.is("undo()", x.undo(), 39);
        due.is("event 40 again", x.event(0, 3, 0, 0, 0), 40);
        due.is("event 41 again", x.event(0, 3, 0, 0, 0), -4);
        for (int k = 0; k <= 5; k++) {
            int kind = k;
            refusals.refused("event of kind " + k, y -> y.event(kind, 199, 8, 7, 0), Refusals.FULL, State.FULL);
        }
    }

    /** "the first that fits, in the order told": BAD, then FULL. */
    private static void eventBadAheadOfFull() {
        LuckyStolen x = State.FULL.anew();
        due.is("a good one", x.event(0, 199, 8, 7, 9), -4);
        due.is("a bad kind", x.event(6, 199, 8, 7, 0), -2);
        due.is("a bad night", x.event(0, 200, 8, 7, 9), -2);
        due.is("a night that falls", x.event(0, 198, 8, 7, 9), -2);
        due.is("a bad stone", x.event(0, 199, 9, 7, 9), -2);
        due.is("a bad house", x.event(0, 199, 8, 8, 9), -2);
        due.is("a bad knowing", x.event(0, 199, 8, 7, 10), -2);
        due.is("a knowing of a gift", x.event(1, 199, 8, 7, 1), -2);
    }

    private static void layAll(LuckyStolen x, int s, int form, int... items) {
        x.sheet(s, form, items.length);
        for (int i = 0; i < items.length; i++) {
            x.lay(s, form, i, items[i]);
        }
    }

    /** "BAD": no such SHEET */
    private static void readSheets() {
        for (int s : Refusals.outside(0, 3)) {
            refusals.bad("read(" + s + ")", x -> x.read(s));
        }
        for (int s = 0; s <= 3; s++) {
            LuckyStolen x = new LuckyStolen();
            x.sheet(s, 2, 5);
            due.is("read(" + s + ")", x.read(s), 1);
        }
    }

    /** "NULL" */
    private static void readOfLostSheet() {
        for (int s = 0; s <= 3; s++) {
            int sheet = s;
            refusals.found("read(" + s + ")", x -> x.read(sheet), Refusals.NULL, State.NEW);
        }
        refusals.found("read(3)", x -> x.read(3), Refusals.NULL, State.BUSY);
        LuckyStolen x = new LuckyStolen();
        x.sheet(0, 0, 5);
        x.lose(0);
        due.is("read(0) of one that was lost again", x.read(0), -11);
        due.is("count(2)", x.count(2), 0);
    }

    /** "five for each, as many as are whole" */
    private static void readWholeOnes() {
        for (int form = 0; form <= 2; form++) {
            for (int n = 0; n <= 60; n++) {
                LuckyStolen x = new LuckyStolen();
                x.sheet(1, form, n);
                due.is("form " + form + ": read(1) of " + n + " items", x.read(1), n / 5);
                due.is("form " + form + ": count(2)", x.count(2), n / 5);
                due.is("count(8): no finding", x.count(8), 0);
            }
        }
    }

    private static void readTakes(String what, int taken, int... items) {
        LuckyStolen x = new LuckyStolen();
        layAll(x, 0, 2, items);
        due.is("read(0): " + what, x.read(0), taken);
        due.is("count(2): " + what, x.count(2), taken);
        due.is("count(8): " + what, x.count(8), 0);
    }

    /** "as long as each may be": up to the first that may not. */
    private static void readAsLongAsEachMayBe() {
        readTakes("the last of everything", 1, 0, 199, 8, 7, 9);
        readTakes("the first of everything", 1, 0, 0, 0, 0, 0);
        readTakes("the last kind", 1, 5, 199, 8, 7, 0);
        int[][] wrong = {{6, 0, 0, 0, 0}, {-1, 0, 0, 0, 0}, {0, 200, 0, 0, 0}, {0, -1, 0, 0, 0}, {0, 0, 9, 0, 0},
            {0, 0, -1, 0, 0}, {0, 0, 0, 8, 0}, {0, 0, 0, -1, 0}, {0, 0, 0, 0, 10}, {0, 0, 0, 0, -1}, {1, 0, 0, 0, 1},
            {5, 0, 0, 0, 9}};
        for (int[] w : wrong) {
            String what = w[0] + " " + w[1] + " " + w[2] + " " + w[3] + " " + w[4];
            readTakes(what + " first", 0, w[0], w[1], w[2], w[3], w[4], 0, 0, 0, 0, 0);
            readTakes(what + " second", 1, 0, 0, 0, 0, 0, w[0], w[1], w[2], w[3], w[4], 0, 0, 0, 0, 0);
            readTakes(what + " last", 2, 0, 0, 0, 0, 0, 0, 0, 0, 0, 0, w[0], w[1], w[2], w[3], w[4]);
        }
    }

    /** A NIGHT less than the one before may not be in a SHEET either, nor behind EVENTS that are there. */
    private static void readNightsNeverFall() {
        readTakes("like nights", 2, 0, 9, 0, 0, 0, 0, 9, 0, 0, 0);
        readTakes("a night that falls", 1, 0, 9, 0, 0, 0, 0, 8, 0, 0, 0, 0, 9, 0, 0, 0);
        LuckyStolen x = new LuckyStolen();
        x.event(1, 50, 0, 0, 0);
        layAll(x, 0, 2, 0, 49, 0, 0, 0);
        due.is("read(0) a night ahead", x.read(0), 0);
        due.is("count(2)", x.count(2), 1);
        layAll(x, 0, 2, 0, 50, 0, 0, 0);
        due.is("read(0) in the same night", x.read(0), 1);
        due.is("count(2)", x.count(2), 2);
    }

    /** An EVENT behind the fortieth may not be: those ahead of it are taken. */
    private static void readUpToFull() {
        for (int before = 27; before <= 40; before++) {
            LuckyStolen x = new LuckyStolen();
            for (int e = 0; e < before; e++) {
                x.event(1, 0, 0, 0, 0);
            }
            x.sheet(0, 0, 60);
            int room = Math.min(12, 40 - before);
            due.is(before + " events: read(0)", x.read(0), room);
            due.is(before + " events: count(2)", x.count(2), before + room);
        }
    }

    /** Items are what a SHEET's FORM holds: the last NIGHT that a byte can tell is 127. */
    private static void readByForms() {
        for (int form = 0; form <= 2; form++) {
            for (int night = 126; night <= 129; night++) {
                LuckyStolen x = new LuckyStolen();
                layAll(x, 0, form, 0, night, 0, 0, 0);
                due.is("form " + form + ": read(0) of night " + night, x.read(0), form == 0 && night > 127 ? 0 : 1);
            }
        }
        LuckyStolen x = new LuckyStolen();
        layAll(x, 0, 0, 256, 256, 256, 256, 256);
        due.is("read(0) of bytes: the lowest bits", x.read(0), 1);
        layAll(x, 0, 1, 65536, 65536, 65536, 65536, 65536);
        due.is("read(0) of shorts: the lowest bits", x.read(0), 1);
        layAll(x, 0, 2, 65536, 65536, 65536, 65536, 65536);
        due.is("read(0) of ints: all bits", x.read(0), 0);
    }

    /** "NOT: none." */
    private static void undoOfNone() {
        refusals.refused("undo()", x -> x.undo(), Refusals.NOT, State.NEW);
        LuckyStolen x = new LuckyStolen();
        due.is("undo()", x.undo(), -3);
        due.is("undo() again", x.undo(), -3);
        due.is("event behind it", x.event(0, 0, 0, 0, 0), 1);
    }

    /** "how many are left", from the fortieth to none */
    private static void undoOfAll() {
        LuckyStolen x = State.FULL.anew();
        for (int left = 39; left >= 0; left--) {
            due.is("undo()", x.undo(), left);
            due.is("count(2)", x.count(2), left);
        }
        due.is("undo() of none", x.undo(), -3);
        due.is("count(2)", x.count(2), 0);
        due.is("days(-1, 0, 299): all is as at first", x.days(-1, 0, 299), 0);
        due.is("event in night 0", x.event(0, 0, 0, 1, 0), 1);
    }

    /** "the STONE is there (in the text)": the last that is, the first that is not */
    private static void lawOfStonesThere() {
        for (int stones = 0; stones <= 8; stones++) {
            LuckyStolen x = Due.with("0r0r0r0r0r0r0r0r".substring(0, 2 * stones));
            for (int kind = 0; kind <= 5; kind++) {
                x.event(kind, 0, stones, kind < 3 ? 1 : 0, 0);
            }
            due.is(stones + " stones: judged() of the next", x.judged(), 0);
            due.is(stones + " stones: count(3)", x.count(3), 6);
            Due.type(x, "0r");
            due.is("with that stone: judged()", x.judged(), 1);
        }
        LuckyStolen x = Due.with(State.NINE);
        x.event(0, 0, 8, 7, 0);
        due.is("the ninth stone: judged()", x.judged(), -1);
        x.type('0');
        due.is("with a FAULT: judged()", x.judged(), 0);
        due.is("with a FAULT: count(3)", x.count(3), 1);
    }

    private static void law(int kind, int house, boolean inField, boolean lawful) {
        LuckyStolen x = Due.with("7r7r");
        if (inField) {
            x.event(3, 0, 1, 7, 0);
        }
        x.event(kind, 0, 1, house, 0);
        String what = "kind " + kind + ", house " + house + (inField ? ", in the field" : ", in house 7");
        int last = inField ? 1 : 0;
        due.is(what + ": judged()", x.judged(), lawful ? -1 : last);
        due.is(what + ": count(3)", x.count(3), lawful ? 0 : 1);
        due.is(what + ": count(4)", x.count(4), lawful && kind == 0 ? 1 : 0);
    }

    /** "some other HOUSE has"; "one that the HOUSE has"; "one in the field" */
    private static void lawOfOthers() {
        for (int house = 0; house <= 7; house++) {
            for (int kind = 0; kind <= 2; kind++) {
                law(kind, house, false, house != 7);
                law(kind, house, true, false);
            }
            law(3, house, false, house == 7);
            law(3, house, true, false);
            law(4, house, false, false);
            law(4, house, true, true);
            law(5, house, false, house == 7);
            law(5, house, true, false);
        }
    }

    /** "What is against it does nothing." */
    private static void againstTheLawDoesNothing() {
        LuckyStolen x = Due.with("0r");
        x.event(0, 1, 0, 3, 0);
        x.event(0, 2, 0, 3, 0);
        x.event(0, 3, 1, 4, 0);
        x.event(1, 4, 0, 3, 0);
        x.event(2, 5, 0, 3, 0);
        x.event(3, 6, 0, 4, 0);
        x.event(4, 7, 0, 4, 0);
        x.event(5, 8, 0, 4, 0);
        due.is("count(3)", x.count(3), 7);
        due.is("judged()", x.judged(), 1);
        due.is("at(0, 30, 0)", x.at(0, 30, 0), 3);
        due.is("at(0, 30, 2): luck of the first theft", x.at(0, 30, 2), 1);
        due.is("at(0, 31, 2)", x.at(0, 31, 2), 0);
        due.is("led(3, 30, 0)", x.led(3, 30, 0), 0);
        for (int e = 1; e <= 7; e++) {
            due.is("without(" + e + ", 299)", x.without(e, 299), 0);
        }
    }

    /** "JUDGED: the first EVENT that is; NONE." */
    private static void judgedFirstAndNone() {
        due.is("judged() of no events", new LuckyStolen().judged(), -1);
        for (int wrong = 0; wrong < 40; wrong++) {
            LuckyStolen x = Due.with("0r");
            for (int e = 0; e < 40; e++) {
                x.event(e >= wrong && e % 2 == wrong % 2 ? 4 : 5, e, 0, 0, 0);
            }
            due.is("judged(), the first being " + wrong, x.judged(), wrong);
            due.is("count(3)", x.count(3), (41 - wrong) / 2);
        }
        LuckyStolen x = Due.with("0r");
        for (int e = 0; e < 40; e++) {
            x.event(5, 199, 0, 0, 0);
        }
        due.is("judged() of 40 by the law", x.judged(), -1);
    }
}
