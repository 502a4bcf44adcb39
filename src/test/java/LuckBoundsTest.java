/** The boundary cases of promises 11 to 15: at, luck, days, led, without. */
public final class LuckBoundsTest {
    private static final Due due = new Due("LuckBoundsTest");
    private static final Refusals refusals = new Refusals(due);

    public static void main(String[] args) {
        atStones();
        atNights();
        atWhat();
        atBehindTheNightsEvents();
        atInTheField();
        luckFromTheNightOfTheTheft();
        luckOfTheLastNights();
        luckOfEveryKnowing();
        luckEndsByThanks();
        luckOfARealStoneAlone();
        luckHouses();
        luckNights();
        luckWhat();
        eggsOfNoneAndOfNine();
        daysHouses();
        daysNights();
        daysUpToALesserOne();
        daysOfOneNightAndOfAll();
        ledNumbers();
        ledPlaces();
        ledByNumbersOfStones();
        withoutEvents();
        withoutNights();
        withoutIsAnyNumber();
        due.end();
    }

    /** "Of a STONE": the last that is there, the first that is not */
    private static void atStones() {
        for (int stones = 0; stones <= 9; stones++) {
            LuckyStolen x = Due.with(State.NINE.substring(0, 2 * stones));
            for (int s = 0; s < stones; s++) {
                due.is(stones + " stones: at(" + s + ", 0, 0)", x.at(s, 0, 0), s % 8);
            }
            for (int what = 0; what <= 2; what++) {
                due.is(stones + " stones: the next, " + what, x.at(stones, 0, what), -2);
                due.is(stones + " stones: at(-1, 0, " + what + ")", x.at(-1, 0, what), -2);
            }
        }
        for (int s : Refusals.outside(0, 8)) {
            refusals.bad("at(" + s + ", 0, 0)", x -> x.at(s, 0, 0));
        }
        refusals.refused("at(5, 0, 0) of five", x -> x.at(5, 0, 0), Refusals.BAD, State.BUSY);
        refusals.refused("at(0, 0, 0) of none", x -> x.at(0, 0, 0), Refusals.BAD, State.NEW, State.FAULTY);
    }

    /** "at a NIGHT (0 to 299)" */
    private static void atNights() {
        LuckyStolen x = Due.with("4r");
        x.event(0, 0, 0, 5, 0);
        x.event(1, 199, 0, 6, 0);
        due.is("at(0, 0, 0)", x.at(0, 0, 0), 5);
        due.is("at(0, 198, 0)", x.at(0, 198, 0), 5);
        due.is("at(0, 199, 0)", x.at(0, 199, 0), 6);
        due.is("at(0, 200, 0)", x.at(0, 200, 0), 6);
        due.is("at(0, 299, 0)", x.at(0, 299, 0), 6);
        due.is("at(0, 299, 1)", x.at(0, 299, 1), 0);
        due.is("at(0, 299, 2)", x.at(0, 299, 2), 0);
        for (int night : Refusals.outside(0, 299)) {
            refusals.bad("at(0, " + night + ", 0)", y -> y.at(0, night, 0));
            refusals.bad("at(0, " + night + ", 2)", y -> y.at(0, night, 2));
        }
    }

    /** "(what = 0; NONE), whether it is lucky (1), how many more NIGHTS (2; 0). BAD." */
    private static void atWhat() {
        for (int what : Refusals.outside(0, 2)) {
            refusals.bad("at(0, 0, " + what + ")", x -> x.at(0, 0, what));
        }
        LuckyStolen x = Due.with("0r");
        for (int what = 0; what <= 2; what++) {
            due.is("at(0, 0, " + what + ") at first", x.at(0, 0, what), 0);
        }
    }

    /** "At a NIGHT (behind its EVENTS)" */
    private static void atBehindTheNightsEvents() {
        LuckyStolen x = Due.with("0r");
        x.event(0, 5, 0, 1, 0);
        x.event(0, 5, 0, 2, 0);
        x.event(0, 5, 0, 3, 0);
        due.is("at(0, 4, 0)", x.at(0, 4, 0), 0);
        due.is("at(0, 5, 0)", x.at(0, 5, 0), 3);
        due.is("at(0, 5, 1)", x.at(0, 5, 1), 1);
        x.event(1, 5, 0, 4, 0);
        due.is("at(0, 5, 1) given away in the same night", x.at(0, 5, 1), 0);
        LuckyStolen y = Due.with("0r");
        y.event(3, 0, 0, 0, 0);
        y.event(4, 0, 0, 6, 0);
        due.is("at(0, 0, 0): left and found in night 0", y.at(0, 0, 0), 6);
    }

    /** "NONE: it lies in the field" */
    private static void atInTheField() {
        LuckyStolen x = Due.with("0r");
        x.event(0, 3, 0, 7, 0);
        x.event(3, 6, 0, 7, 0);
        due.is("at(0, 5, 0)", x.at(0, 5, 0), 7);
        due.is("at(0, 6, 0)", x.at(0, 6, 0), -1);
        due.is("at(0, 299, 0)", x.at(0, 299, 0), -1);
        due.is("at(0, 6, 1): it brings luck to none", x.at(0, 6, 1), 0);
        due.is("at(0, 6, 2)", x.at(0, 6, 2), 0);
        due.is("days(-1, 0, 299)", x.days(-1, 0, 299), 3);
    }

    /** "from the NIGHT of the THEFT on for LASTS NIGHTS"; "how many more NIGHTS, this one too" */
    private static void luckFromTheNightOfTheTheft() {
        for (int lasts = 1; lasts <= 99; lasts++) {
            LuckyStolen x = Due.with("0r");
            x.event(0, 20, 0, 1, 0);
            x.lasts(lasts);
            String when = "lasts " + lasts + ": ";
            due.is(when + "the night before, 1", x.at(0, 19, 1), 0);
            due.is(when + "the night before, 2", x.at(0, 19, 2), 0);
            due.is(when + "the first night, 1", x.at(0, 20, 1), 1);
            due.is(when + "the first night, 2", x.at(0, 20, 2), lasts);
            due.is(when + "the last night, 1", x.at(0, 19 + lasts, 1), 1);
            due.is(when + "the last night, 2", x.at(0, 19 + lasts, 2), 1);
            due.is(when + "the night behind, 1", x.at(0, 20 + lasts, 1), 0);
            due.is(when + "the night behind, 2", x.at(0, 20 + lasts, 2), 0);
            due.is(when + "luck in the last night", x.luck(1, 19 + lasts, 0), 1);
            due.is(when + "luck behind", x.luck(1, 20 + lasts, 0), 0);
            due.is(when + "days", x.days(1, 0, 299), lasts);
            due.is(when + "led in the last night", x.led(1, 19 + lasts, 0), 0);
            due.is(when + "led behind", x.led(1, 20 + lasts, 0), -1);
        }
    }

    /** The last NIGHT of a THEFT and the longest luck end before the last NIGHT that can be asked. */
    private static void luckOfTheLastNights() {
        LuckyStolen x = Due.with("0r");
        x.lasts(99);
        x.event(0, 199, 0, 1, 0);
        due.is("at(0, 198, 1)", x.at(0, 198, 1), 0);
        due.is("at(0, 199, 2)", x.at(0, 199, 2), 99);
        due.is("at(0, 297, 2)", x.at(0, 297, 2), 1);
        due.is("at(0, 298, 1)", x.at(0, 298, 1), 0);
        due.is("at(0, 299, 1)", x.at(0, 299, 1), 0);
        due.is("days(1, 0, 299)", x.days(1, 0, 299), 99);
        LuckyStolen y = Due.with("0r");
        y.lasts(1);
        y.event(0, 0, 0, 1, 0);
        due.is("at(0, 0, 2)", y.at(0, 0, 2), 1);
        due.is("at(0, 1, 2)", y.at(0, 1, 2), 0);
        due.is("days(1, 0, 0)", y.days(1, 0, 0), 1);
    }

    /** "a THEFT with 0 or an odd KNOWING is a true one, else it is as a GIFT" */
    private static void luckOfEveryKnowing() {
        int[] lucky = {1, 1, 0, 1, 0, 1, 0, 1, 0, 1};
        for (int knowing = 0; knowing <= 9; knowing++) {
            LuckyStolen x = Due.with("0r");
            x.event(0, 0, 0, 1, knowing);
            due.is("knowing " + knowing + ": at(0, 0, 0)", x.at(0, 0, 0), 1);
            due.is("knowing " + knowing + ": at(0, 0, 1)", x.at(0, 0, 1), lucky[knowing]);
            due.is("knowing " + knowing + ": count(4)", x.count(4), lucky[knowing]);
            due.is("knowing " + knowing + ": judged()", x.judged(), -1);
            LuckyStolen y = Due.with("0r");
            y.event(0, 0, 0, 2, 0);
            y.event(0, 1, 0, 1, knowing);
            due.is("knowing " + knowing + ", of a lucky one", y.at(0, 1, 1), lucky[knowing]);
        }
    }

    /** "was not thanked for it since" */
    private static void luckEndsByThanks() {
        LuckyStolen x = Due.with("0r");
        x.event(0, 5, 0, 1, 0);
        x.event(5, 5, 0, 1, 0);
        due.is("thanked in the same night", x.at(0, 5, 1), 0);
        x.event(0, 5, 0, 2, 0);
        due.is("stolen behind that", x.at(0, 5, 1), 1);
        x.event(5, 34, 0, 2, 0);
        due.is("a night before the thanks", x.at(0, 33, 2), 2);
        due.is("thanked in the last night of luck", x.at(0, 34, 1), 0);
        due.is("days(2, 0, 299)", x.days(2, 0, 299), 29);
        LuckyStolen y = Due.with("0r");
        y.event(5, 0, 0, 0, 0);
        y.event(0, 1, 0, 1, 0);
        due.is("thanked before the theft", y.at(0, 1, 1), 1);
        y.event(5, 31, 0, 1, 0);
        due.is("thanked when it is dead", y.days(1, 0, 299), 30);
    }

    /** "a real STONE" */
    private static void luckOfARealStoneAlone() {
        LuckyStolen x = Due.with("0f");
        x.event(0, 0, 0, 1, 0);
        due.is("forged: at(0, 0, 0)", x.at(0, 0, 0), 1);
        due.is("forged: at(0, 0, 1)", x.at(0, 0, 1), 0);
        due.is("forged: at(0, 0, 2)", x.at(0, 0, 2), 0);
        due.is("forged: luck(1, 0, 0)", x.luck(1, 0, 0), 0);
        due.is("forged: luck(1, 0, 1)", x.luck(1, 0, 1), 1);
        due.is("forged: led(1, 0, 0)", x.led(1, 0, 0), -1);
        due.is("forged: count(4): a true theft all the same", x.count(4), 1);
    }

    /** "of a HOUSE ... BAD" */
    private static void luckHouses() {
        LuckyStolen x = Due.with("0r1r2r3r4r5r6r7r");
        for (int s = 0; s < 8; s++) {
            x.event(0, s, s, (s + 1) % 8, 0);
        }
        for (int house = 0; house < 8; house++) {
            int night = (house + 7) % 8;
            due.is("luck(" + house + ", 7, 0)", x.luck(house, 7, 0), 1);
            due.is("luck(" + house + ", its night, 0)", x.luck(house, night, 0), 1);
            due.is("luck(" + house + ", 299, 0)", x.luck(house, 299, 0), 0);
        }
        for (int house : Refusals.outside(0, 7)) {
            refusals.bad("luck(" + house + ", 0, 0)", y -> y.luck(house, 0, 0));
            refusals.bad("luck(" + house + ", 0, 1)", y -> y.luck(house, 0, 1));
        }
    }

    /** "at a NIGHT (0 to 299)" */
    private static void luckNights() {
        LuckyStolen x = Due.with("0r");
        x.event(0, 0, 0, 1, 0);
        due.is("luck(1, 0, 0)", x.luck(1, 0, 0), 1);
        due.is("luck(1, 299, 0)", x.luck(1, 299, 0), 0);
        due.is("luck(1, 299, 1)", x.luck(1, 299, 1), 1);
        for (int night : Refusals.outside(0, 299)) {
            refusals.bad("luck(0, " + night + ", 0)", y -> y.luck(0, night, 0));
            refusals.bad("luck(0, " + night + ", 1)", y -> y.luck(0, night, 1));
        }
    }

    /** "LUCK (what = 0), EGGS (1)" */
    private static void luckWhat() {
        for (int what : Refusals.outside(0, 1)) {
            refusals.bad("luck(0, 0, " + what + ")", x -> x.luck(0, 0, what));
        }
    }

    /** "EGGS: 1, and twice its LUCK", from no lucky STONE to nine */
    private static void eggsOfNoneAndOfNine() {
        for (int stolen = 0; stolen <= 9; stolen++) {
            LuckyStolen x = Due.with("0r0r0r0r0r0r0r0r0r");
            for (int s = 0; s < stolen; s++) {
                x.event(0, 9, s, 7, 0);
            }
            due.is(stolen + " stolen: luck(7, 9, 0)", x.luck(7, 9, 0), stolen);
            due.is(stolen + " stolen: luck(7, 9, 1)", x.luck(7, 9, 1), 1 + 2 * stolen);
            due.is(stolen + " stolen: luck(0, 9, 1)", x.luck(0, 9, 1), 1);
        }
        due.is("no stones: luck(0, 0, 0)", new LuckyStolen().luck(0, 0, 0), 0);
        due.is("no stones: luck(7, 299, 1)", new LuckyStolen().luck(7, 299, 1), 1);
    }

    /** "of a HOUSE (NONE: of all together)"; "BAD" */
    private static void daysHouses() {
        LuckyStolen x = Due.with("0r1r2r3r4r5r6r7r");
        for (int s = 0; s < 8; s++) {
            x.event(0, s, s, (s + 1) % 8, 0);
        }
        for (int house = 0; house <= 7; house++) {
            due.is("days(" + house + ", 0, 299)", x.days(house, 0, 299), 30);
        }
        due.is("days(-1, 0, 299)", x.days(-1, 0, 299), 240);
        due.is("days(-1, 7, 7): all eight", x.days(-1, 7, 7), 8);
        for (int house : Refusals.outside(-1, 7)) {
            refusals.bad("days(" + house + ", 0, 0)", y -> y.days(house, 0, 0));
        }
    }

    /** "from a NIGHT up to another one (0 to 299)" */
    private static void daysNights() {
        LuckyStolen x = Due.with("0r");
        x.event(0, 0, 0, 1, 0);
        due.is("days(1, 0, 0)", x.days(1, 0, 0), 1);
        due.is("days(1, 0, 299)", x.days(1, 0, 299), 30);
        due.is("days(1, 299, 299)", x.days(1, 299, 299), 0);
        for (int night : Refusals.outside(0, 299)) {
            refusals.bad("days(0, " + night + ", 299)", y -> y.days(0, night, 299));
            refusals.bad("days(0, 0, " + night + ")", y -> y.days(0, 0, night));
            refusals.bad("days(-1, " + night + ", " + night + ")", y -> y.days(-1, night, night));
        }
    }

    /** "BAD: also one up to a lesser one" */
    private static void daysUpToALesserOne() {
        refusals.bad("days(0, 1, 0)", x -> x.days(0, 1, 0));
        refusals.bad("days(7, 299, 298)", x -> x.days(7, 299, 298));
        refusals.bad("days(-1, 299, 0)", x -> x.days(-1, 299, 0));
        LuckyStolen x = State.BUSY.anew();
        due.is("days(4, 2, 1)", x.days(4, 2, 1), -2);
        due.is("days(4, 2, 2)", x.days(4, 2, 2), 1);
        due.is("days(4, 2, 3)", x.days(4, 2, 3), 2);
    }

    /** "in how many NIGHTS from one up to another one", both of them too */
    private static void daysOfOneNightAndOfAll() {
        LuckyStolen x = Due.with("0r");
        x.lasts(3);
        x.event(0, 10, 0, 1, 0);
        int[] lucky = {0, 1, 1, 1, 0};
        for (int from = 9; from <= 13; from++) {
            int sum = 0;
            for (int to = from; to <= 13; to++) {
                sum += lucky[to - 9];
                due.is("days(1, " + from + ", " + to + ")", x.days(1, from, to), sum);
                due.is("days(-1, " + from + ", " + to + ")", x.days(-1, from, to), sum);
            }
        }
        LuckyStolen y = Due.with("0r");
        y.lasts(99);
        y.event(0, 0, 0, 1, 0);
        y.event(0, 99, 0, 2, 0);
        y.event(0, 198, 0, 1, 0);
        due.is("days(-1, 0, 299)", y.days(-1, 0, 299), 297);
        due.is("days(1, 0, 299)", y.days(1, 0, 299), 198);
        due.is("days(2, 0, 299)", y.days(2, 0, 299), 99);
        due.is("days(-1, 297, 299)", y.days(-1, 297, 299), 0);
        due.is("days(-1, 296, 299)", y.days(-1, 296, 299), 1);
    }

    /** "LED; NONE. BAD" of HOUSES and NIGHTS */
    private static void ledNumbers() {
        for (int house : Refusals.outside(0, 7)) {
            refusals.bad("led(" + house + ", 0, 0)", x -> x.led(house, 0, 0));
        }
        for (int night : Refusals.outside(0, 299)) {
            refusals.bad("led(0, " + night + ", 0)", x -> x.led(0, night, 0));
        }
        LuckyStolen x = Due.with("0r1r");
        x.event(0, 0, 0, 7, 0);
        x.event(0, 0, 1, 0, 0);
        due.is("led(7, 0, 0)", x.led(7, 0, 0), 0);
        due.is("led(0, 0, 0)", x.led(0, 0, 0), 1);
        due.is("led(7, 299, 0)", x.led(7, 299, 0), -1);
        due.is("led(0, 299, 0)", x.led(0, 299, 0), -1);
    }

    /** "i from 0 on": below it BAD, above all lucky STONES NONE */
    private static void ledPlaces() {
        refusals.bad("led(0, 0, -1)", x -> x.led(0, 0, -1));
        refusals.bad("led(0, 0, least)", x -> x.led(0, 0, Integer.MIN_VALUE));
        for (State state : State.values()) {
            due.is(state + ": led(0, 299, much)", state.anew().led(0, 299, Integer.MAX_VALUE), -1);
        }
        LuckyStolen x = Due.with("0r0r0r0r0r0r0r0r0r");
        due.is("led(7, 0, 0) of no lucky stone", x.led(7, 0, 0), -1);
        for (int s = 0; s < 9; s++) {
            x.event(0, 0, s, 7, 0);
            due.is("led(7, 0, the last)", x.led(7, 0, s), s);
            due.is("led(7, 0, one more)", x.led(7, 0, s + 1), -1);
        }
    }

    /** "the i-th lucky STONE (by numbers)"; "its number as an EVENT", up to 39 */
    private static void ledByNumbersOfStones() {
        LuckyStolen x = Due.with("0r0r0r0r0r0r0r0r0r");
        for (int e = 0; e < 31; e++) {
            x.event(4, 0, 0, 0, 0);
        }
        for (int s = 8; s >= 0; s--) {
            x.event(0, 1, s, 7, 0);
        }
        for (int i = 0; i < 9; i++) {
            due.is("led(7, 1, " + i + ")", x.led(7, 1, i), 39 - i);
        }
        due.is("led(7, 1, 9)", x.led(7, 1, 9), -1);
        due.is("led(7, 0, 0)", x.led(7, 0, 0), -1);
    }

    /** "BAD: -10002": the last EVENT that is there, the first that is not */
    private static void withoutEvents() {
        for (int e : Refusals.outside(0, 39)) {
            refusals.refused("without(" + e + ", 0)", x -> x.without(e, 0), -10002, State.values());
        }
        refusals.refused("without(0, 0) of none", x -> x.without(0, 0), -10002, State.NEW);
        refusals.refused("without(7, 0) of seven", x -> x.without(7, 0), -10002, State.BUSY);
        refusals.refused("without(2, 299) of two", x -> x.without(2, 299), -10002, State.FAULTY);
        due.is("without(6, 299) of seven: against the law", State.BUSY.anew().without(6, 299), 0);
        LuckyStolen x = Due.with("0r");
        for (int e = 0; e < 40; e++) {
            due.is("without(the next, 299)", x.without(e, 299), -10002);
            x.event(0, e, 0, 1 + e % 2, 0);
            due.is("without(the last, 299)", x.without(e, 299), e == 0 ? -30 : -1);
        }
        x.undo();
        due.is("without(39, 299) behind undo()", x.without(39, 299), -10002);
        due.is("without(38, 299) behind undo()", x.without(38, 299), -1);
    }

    /** "from NIGHT 0 up to a NIGHT"; "(NIGHT 0 to 299)" */
    private static void withoutNights() {
        for (int night : Refusals.outside(0, 299)) {
            refusals.refused("without(0, " + night + ")", x -> x.without(0, night), -10002, State.values());
        }
        LuckyStolen x = Due.with("0r");
        x.event(0, 0, 0, 1, 0);
        due.is("without(0, 0)", x.without(0, 0), -1);
        due.is("without(0, 28)", x.without(0, 28), -29);
        due.is("without(0, 29)", x.without(0, 29), -30);
        due.is("without(0, 30)", x.without(0, 30), -30);
        due.is("without(0, 299)", x.without(0, 299), -30);
    }

    /** "as any number": below 0, as low as refusals of other calls, 0 and above */
    private static void withoutIsAnyNumber() {
        LuckyStolen x = Due.with("0r");
        x.event(0, 5, 0, 1, 0);
        x.event(5, 6, 0, 1, 0);
        due.is("without(0, 4): none", x.without(0, 4), 0);
        due.is("without(0, 5): as NONE", x.without(0, 5), -1);
        due.is("without(1, 299): more", x.without(1, 299), 29);
        due.is("without(1, 6): more", x.without(1, 6), 1);
        due.is("without(1, 5): none", x.without(1, 5), 0);
        x.undo();
        for (int night = 5; night <= 19; night++) {
            due.is("without(0, " + night + ")", x.without(0, night), 4 - night);
        }
        due.is("count(2): nothing is taken away", x.count(2), 1);
        due.is("days(1, 0, 299)", x.days(1, 0, 299), 30);
    }
}
