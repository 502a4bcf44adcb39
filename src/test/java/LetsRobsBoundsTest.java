/** The boundary cases of promises 19 and 20: lets, robs. */
public final class LetsRobsBoundsTest {
    private static final Due due = new Due("LetsRobsBoundsTest");
    private static final Refusals refusals = new Refusals(due);

    public static void main(String[] args) {
        letsNights();
        letsAheadOfTheLastEvent();
        letsHowManyNights();
        letsWhat();
        letsWithoutAnythingToSteal();
        letsWithoutUse();
        letsBehindAllEvents();
        letsOfTheLastStoneAndHouse();
        letsByAnyOtherHouse();
        letsOfTheShortestLuck();
        letsLuckThatEnds();
        letsLeastRow();
        robsWeeks();
        robsNights();
        robsWhat();
        robsOfShortAndLongLuck();
        due.end();
    }

    private static void letsAre(String when, LuckyStolen x, int night, int n, int most, int first) {
        due.is(when + ": lets(" + night + ", " + n + ", 0)", x.lets(night, n, 0), most);
        due.is(when + ": lets(" + night + ", " + n + ", 1)", x.lets(night, n, 1), first);
    }

    /** "BAD: also a NIGHT ... beyond 199" */
    private static void letsNights() {
        letsAre("first night", Due.with("0r"), 0, 1, 1, 1);
        letsAre("last night", Due.with("0r"), 199, 1, 1, 1);
        letsAre("the nights behind it count too", Due.with("0r"), 199, 3, 3, 1);
        for (int night : Refusals.outside(0, 199)) {
            for (int n = 1; n <= 3; n++) {
                int nights = n;
                refusals.bad("lets(" + night + ", " + n + ", 0)", x -> x.lets(night, nights, 0));
                refusals.bad("lets(" + night + ", " + n + ", 1)", x -> x.lets(night, nights, 1));
            }
        }
    }

    /** "from a NIGHT on (that of the last EVENT or later)"; "BAD: also a NIGHT ahead of the last EVENT" */
    private static void letsAheadOfTheLastEvent() {
        refusals.refused("lets(17, 1, 0)", x -> x.lets(17, 1, 0), Refusals.BAD, State.BUSY);
        refusals.refused("lets(198, 3, 1)", x -> x.lets(198, 3, 1), Refusals.BAD, State.FULL);
        refusals.refused("lets(4, 1, 0)", x -> x.lets(4, 1, 0), Refusals.BAD, State.FAULTY);
        LuckyStolen x = Due.with("0r");
        x.event(0, 50, 0, 1, 0);
        due.is("lets(49, 1, 0)", x.lets(49, 1, 0), -2);
        due.is("lets(50, 1, 0)", x.lets(50, 1, 0), 1);
        x.event(4, 60, 0, 1, 0);
        due.is("lets(59, 1, 0): against the law, yet the last", x.lets(59, 1, 0), -2);
        due.is("lets(60, 1, 0)", x.lets(60, 1, 0), 1);
        x.undo();
        due.is("lets(59, 1, 0) behind undo()", x.lets(59, 1, 0), 1);
        x.undo();
        due.is("lets(0, 1, 0) of no events", x.lets(0, 1, 0), 1);
    }

    /** "for n NIGHTS (1 to 3)" */
    private static void letsHowManyNights() {
        for (int n : Refusals.outside(1, 3)) {
            refusals.bad("lets(199, " + n + ", 0)", x -> x.lets(199, n, 0));
            refusals.bad("lets(199, " + n + ", 1)", x -> x.lets(199, n, 1));
        }
        LuckyStolen x = Due.with("0r1r2r");
        letsAre("one night", x, 0, 1, 1, 1);
        letsAre("two nights", x, 0, 2, 3, 1);
        letsAre("three nights", x, 0, 3, 6, 1);
    }

    /** "how many (what = 0), that of the first NIGHT (1; NONE). BAD" */
    private static void letsWhat() {
        for (int what : Refusals.outside(0, 1)) {
            refusals.bad("lets(199, 1, " + what + ")", x -> x.lets(199, 1, what));
            refusals.bad("lets(199, 3, " + what + ")", x -> x.lets(199, 3, what));
        }
    }

    /** "of any STONE that a HOUSE has": none, forged ones, one in the field */
    private static void letsWithoutAnythingToSteal() {
        LuckyStolen inField = Due.with("0r");
        inField.event(3, 0, 0, 0, 0);
        LuckyStolen faulty = Due.with("0r1");
        for (int n = 1; n <= 3; n++) {
            letsAre("no stones", new LuckyStolen(), 0, n, 0, -1);
            letsAre("a FAULT", faulty, 0, n, 0, -1);
            letsAre("forged ones", Due.with("0f1f"), 0, n, 0, -1);
            letsAre("in the field", inField, 0, n, 0, -1);
        }
    }

    /** "none ahead of all": no THEFT where none makes it better */
    private static void letsWithoutUse() {
        LuckyStolen x = Due.with("0r1r2r3r4r5r6r7r0r");
        for (int s = 0; s < 8; s++) {
            x.event(0, 1, s, (s + 1) % 8, 0);
        }
        for (int n = 1; n <= 3; n++) {
            letsAre("all houses are lucky", x, 1, n, 8 * n, -1);
        }
        LuckyStolen y = Due.with("0r");
        y.event(0, 5, 0, 1, 0);
        for (int n = 1; n <= 3; n++) {
            letsAre("one that is lucky", y, 5, n, n, -1);
            letsAre("in the last night of its luck", y, 34, n, n, -1);
            letsAre("behind its luck", y, 35, n, n, 0);
        }
    }

    /** "behind all EVENTS", those of the same NIGHT too */
    private static void letsBehindAllEvents() {
        LuckyStolen x = Due.with("0r1r");
        x.event(0, 199, 0, 1, 0);
        letsAre("behind the first", x, 199, 1, 2, 8);
        x.event(0, 199, 1, 0, 0);
        letsAre("behind the second", x, 199, 1, 2, -1);
        x.event(3, 199, 1, 0, 0);
        letsAre("behind the third", x, 199, 1, 1, -1);
        x.event(5, 199, 0, 1, 0);
        letsAre("behind the fourth", x, 199, 1, 1, 0);
    }

    /** "8 times the STONE and the HOUSE": up to 71 */
    private static void letsOfTheLastStoneAndHouse() {
        letsAre("the ninth stone, the first house", Due.with("1f1f1f1f1f1f1f1f1r"), 0, 1, 1, 64);
        letsAre("the ninth stone, the second house", Due.with("1f1f1f1f1f1f1f1f0r"), 0, 3, 3, 65);
        LuckyStolen x = Due.with("0r1r2r3r4r5r6r0r0r");
        for (int s = 0; s < 7; s++) {
            x.event(0, 0, s, (s + 1) % 7, 0);
        }
        x.event(3, 0, 7, 0, 0);
        letsAre("the ninth stone, the last house", x, 0, 1, 8, 71);
        letsAre("the ninth stone, the last house", x, 0, 3, 24, 71);
    }

    /** "by any other HOUSE": not by the one that has it */
    private static void letsByAnyOtherHouse() {
        LuckyStolen x = Due.with("0r1r2r3r4r5r6r7r");
        for (int s = 0; s < 7; s++) {
            x.event(0, 0, s, (s + 1) % 8, 0);
        }
        x.event(1, 0, 7, 0, 0);
        letsAre("the one that lacks luck has the stone", x, 0, 1, 7, -1);
        letsAre("it gets it back by two thefts", x, 0, 2, 15, 0);
        for (int house = 0; house < 8; house++) {
            LuckyStolen y = Due.with(house + "r");
            letsAre("in house " + house, y, 0, 1, 1, house == 0 ? 1 : 0);
        }
    }

    /** LASTS 1: the luck of one NIGHT's THEFT is over in the next. */
    private static void letsOfTheShortestLuck() {
        LuckyStolen x = Due.with("0r1r2r");
        x.lasts(1);
        for (int n = 1; n <= 3; n++) {
            letsAre("lasts 1", x, 0, n, n, 1);
            letsAre("lasts 1, last night", x, 199, n, n, 1);
        }
        x.lasts(2);
        letsAre("lasts 2", x, 0, 3, 5, 1);
        x.lasts(3);
        letsAre("lasts 3", x, 0, 3, 6, 1);
        x.lasts(99);
        letsAre("lasts 99", x, 0, 3, 6, 1);
    }

    /** Luck that is there ends within the NIGHTS that are asked. */
    private static void letsLuckThatEnds() {
        LuckyStolen x = Due.with("0r0r");
        x.event(0, 0, 0, 1, 0);
        x.event(0, 0, 1, 2, 0);
        letsAre("both lucky for two more nights", x, 28, 3, 6, -1);
        letsAre("both lucky for one more: one must go at once", x, 29, 3, 6, 0);
        letsAre("both lucky no more", x, 30, 3, 5, 0);
        LuckyStolen y = Due.with("0r0r");
        y.event(0, 0, 0, 1, 0);
        y.event(0, 0, 1, 1, 0);
        letsAre("both lucky in one house", y, 0, 1, 2, 0);
        letsAre("both lucky in one house", y, 0, 2, 4, 0);
        letsAre("both lucky in one house for one more night", y, 29, 2, 4, 0);
    }

    /** "of like rows the least" */
    private static void letsLeastRow() {
        letsAre("all like", Due.with("7r6r5r"), 0, 1, 1, 0);
        LuckyStolen x = Due.with("0r0r");
        x.event(0, 0, 0, 3, 0);
        x.event(0, 0, 1, 3, 0);
        letsAre("either of two", x, 0, 1, 2, 0);
        LuckyStolen y = Due.with("0r0r");
        y.event(0, 0, 0, 3, 0);
        letsAre("the first would lose its luck", y, 0, 1, 2, 9);
    }

    private static void robsAre(LuckyStolen x, int w, int n, int one, int other, int neither) {
        String call = "robs(" + w + ", " + n + ", ";
        due.is(call + "0)", x.robs(w, n, 0), one);
        due.is(call + "1)", x.robs(w, n, 1), other);
        due.is(call + "2)", x.robs(w, n, 2), neither);
    }

    /** "each W (1 to 30) NIGHTS" */
    private static void robsWeeks() {
        for (int w : Refusals.outside(1, 30)) {
            refusals.bad("robs(" + w + ", 1, 0)", x -> x.robs(w, 1, 0));
            refusals.bad("robs(" + w + ", 200, 2)", x -> x.robs(w, 200, 2));
        }
        LuckyStolen x = new LuckyStolen();
        robsAre(x, 1, 2, 1, 1, 0);
        robsAre(x, 1, 3, 2, 1, 0);
        robsAre(x, 30, 30, 30, 0, 0);
        robsAre(x, 30, 31, 30, 1, 0);
        robsAre(x, 30, 61, 31, 30, 0);
    }

    /** "the NIGHTS 0 to n less 1 (n 1 to 200)" */
    private static void robsNights() {
        for (int n : Refusals.outside(1, 200)) {
            refusals.bad("robs(1, " + n + ", 0)", x -> x.robs(1, n, 0));
            refusals.bad("robs(30, " + n + ", 2)", x -> x.robs(30, n, 2));
        }
        LuckyStolen x = new LuckyStolen();
        robsAre(x, 1, 1, 1, 0, 0);
        robsAre(x, 30, 1, 1, 0, 0);
        robsAre(x, 1, 199, 100, 99, 0);
        robsAre(x, 1, 200, 100, 100, 0);
        robsAre(x, 30, 200, 110, 90, 0);
    }

    /** "the one (0), the other (1), neither (2)" */
    private static void robsWhat() {
        for (int what : Refusals.outside(0, 2)) {
            refusals.bad("robs(1, 1, " + what + ")", x -> x.robs(1, 1, what));
            refusals.bad("robs(30, 200, " + what + ")", x -> x.robs(30, 200, what));
        }
    }

    /** "LASTS as told": one NIGHT less than W, W, one more, 1 and 99; no STONES are asked for */
    private static void robsOfShortAndLongLuck() {
        LuckyStolen x = new LuckyStolen();
        x.lasts(6);
        robsAre(x, 7, 14, 6, 6, 2);
        robsAre(x, 7, 6, 6, 0, 0);
        robsAre(x, 7, 7, 6, 0, 1);
        robsAre(x, 7, 8, 6, 1, 1);
        x.lasts(7);
        robsAre(x, 7, 14, 7, 7, 0);
        x.lasts(8);
        robsAre(x, 7, 14, 7, 7, 0);
        x.lasts(1);
        robsAre(x, 1, 200, 100, 100, 0);
        robsAre(x, 2, 200, 50, 50, 100);
        robsAre(x, 30, 200, 4, 3, 193);
        x.lasts(29);
        robsAre(x, 30, 200, 107, 87, 6);
        x.lasts(99);
        robsAre(x, 30, 200, 110, 90, 0);
    }
}
