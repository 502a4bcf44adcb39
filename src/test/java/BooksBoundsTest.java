/** The boundary cases of promises 16 to 18: book, forget, fitting. */
public final class BooksBoundsTest {
    private static final Due due = new Due("BooksBoundsTest");
    private static final Refusals refusals = new Refusals(due);

    public static void main(String[] args) {
        bookHouses();
        bookNights();
        bookEggs();
        booksAreFull();
        bookBadAheadOfFull();
        forgetNoneAndAll();
        fittingWhat();
        fittingWithoutBooks();
        fittingWithoutStones();
        fittingNone();
        fittingOfOneSetOfNine();
        fittingByTheLastBook();
        fittingInTheLastNights();
        fittingOfEggs();
        fittingChangesNothing();
        due.end();
    }

    private static void firstBook(int house, int night, int eggs) {
        LuckyStolen x = new LuckyStolen();
        due.is("book(" + house + ", " + night + ", " + eggs + ")", x.book(house, night, eggs), 1);
        due.is("count(6) behind it", x.count(6), 1);
    }

    /** "a HOUSE"; "BAD" */
    private static void bookHouses() {
        for (int house = 0; house <= 7; house++) {
            firstBook(house, 0, 1);
        }
        for (int house : Refusals.outside(0, 7)) {
            refusals.bad("book(" + house + ", 0, 1)", x -> x.book(house, 0, 1));
        }
    }

    /** "NIGHT 0 to 299" */
    private static void bookNights() {
        firstBook(0, 0, 1);
        firstBook(7, 299, 1);
        for (int night : Refusals.outside(0, 299)) {
            refusals.bad("book(0, " + night + ", 1)", x -> x.book(0, night, 1));
        }
    }

    /** "so many EGGS (0 to 19)" */
    private static void bookEggs() {
        for (int eggs = 0; eggs <= 19; eggs++) {
            firstBook(0, 0, eggs);
        }
        for (int eggs : Refusals.outside(0, 19)) {
            refusals.bad("book(0, 0, " + eggs + ")", x -> x.book(0, 0, eggs));
        }
    }

    /** "BOOKS, 8 at most"; "how many"; "FULL" */
    private static void booksAreFull() {
        LuckyStolen x = new LuckyStolen();
        for (int b = 1; b <= 8; b++) {
            due.is("book " + b, x.book(0, 0, 1), b);
            due.is("count(6)", x.count(6), b);
        }
        due.is("book 9", x.book(0, 0, 1), -4);
        due.is("book 9, that would not fit", x.book(0, 0, 3), -4);
        due.is("fitting(0): it is not there", x.fitting(0), 1);
        due.is("forget()", x.forget(), 8);
        due.is("book 1 again", x.book(0, 0, 1), 1);
        refusals.refused("book(0, 0, 0)", y -> y.book(0, 0, 0), Refusals.FULL, State.FULL);
        refusals.refused("book(7, 299, 19)", y -> y.book(7, 299, 19), Refusals.FULL, State.FULL);
    }

    /** "the first that fits, in the order told": BAD, then FULL. */
    private static void bookBadAheadOfFull() {
        LuckyStolen x = State.FULL.anew();
        due.is("a good book", x.book(7, 299, 19), -4);
        due.is("a bad house", x.book(8, 299, 19), -2);
        due.is("a bad house below", x.book(-1, 299, 19), -2);
        due.is("a bad night", x.book(7, 300, 19), -2);
        due.is("a bad night below", x.book(7, -1, 19), -2);
        due.is("bad eggs", x.book(7, 299, 20), -2);
        due.is("bad eggs below", x.book(7, 299, -1), -2);
    }

    /** "BOOKS are forgotten: how many." */
    private static void forgetNoneAndAll() {
        LuckyStolen x = State.FULL.anew();
        due.is("forget() of eight", x.forget(), 8);
        due.is("count(6)", x.count(6), 0);
        due.is("forget() of none", x.forget(), 0);
        due.is("fitting(0) of no books", x.fitting(0), 512);
        due.is("count(2): EVENTS stay", x.count(2), 40);
        due.is("count(0): STONES stay", x.count(0), 9);
        due.is("book behind it", x.book(0, 0, 1), 1);
        due.is("forget() of one", x.forget(), 1);
    }

    /** "how many sets (what = 0), the least (1), forged in all (2), in none (3)"; "BAD" */
    private static void fittingWhat() {
        for (int what : Refusals.outside(0, 3)) {
            refusals.bad("fitting(" + what + ")", x -> x.fitting(what));
        }
        LuckyStolen x = Due.with("0r0r0r");
        for (int s = 0; s < 3; s++) {
            x.event(0, 0, s, 1 + s, 0);
        }
        x.book(1, 0, 1);
        x.book(2, 0, 3);
        fittingIs(x, "one forged, one real, one either", 2, 1, 1, 2);
    }

    private static void fittingIs(LuckyStolen x, String when, int sets, int least, int inAll, int inNone) {
        due.is(when + ": fitting(0)", x.fitting(0), sets);
        due.is(when + ": fitting(1)", x.fitting(1), least);
        due.is(when + ": fitting(2)", x.fitting(2), inAll);
        due.is(when + ": fitting(3)", x.fitting(3), inNone);
    }

    /** "sets of STONES (bits, of those that are there)": from none to nine, all sets without BOOKS */
    private static void fittingWithoutBooks() {
        for (int stones = 0; stones <= 9; stones++) {
            LuckyStolen x = Due.with(State.NINE.substring(0, 2 * stones));
            fittingIs(x, stones + " stones", 1 << stones, 0, 0, 0);
        }
    }

    /** Without STONES, and with a FAULT, there is the empty set alone: it is in none of the stones. */
    private static void fittingWithoutStones() {
        LuckyStolen[] empty = {new LuckyStolen(), Due.with("0"), Due.with(State.NINE + "1r")};
        for (LuckyStolen x : empty) {
            fittingIs(x, "no stones", 1, 0, 0, 0);
            x.book(0, 0, 1);
            fittingIs(x, "no stones, one egg", 1, 0, 0, 0);
            x.book(7, 299, 0);
            fittingIs(x, "no stones, no egg", 0, -1, -1, -1);
        }
    }

    /** "NONE (not how many): there are none." */
    private static void fittingNone() {
        LuckyStolen x = Due.with("0r");
        x.event(0, 0, 0, 1, 0);
        x.book(1, 0, 3);
        fittingIs(x, "a real one", 1, 0, 0, 1);
        x.book(1, 0, 1);
        fittingIs(x, "a real one that is forged", 0, -1, -1, -1);
        x.forget();
        x.book(1, 0, 1);
        fittingIs(x, "a forged one", 1, 1, 1, 0);
    }

    /** The highest bits: all nine forged, none of nine, and the ninth alone */
    private static void fittingOfOneSetOfNine() {
        LuckyStolen x = Due.with("0r0r0r0r0r0r0r0r0r");
        for (int s = 0; s < 9; s++) {
            x.event(0, 0, s, 7, 0);
        }
        x.book(7, 0, 1);
        fittingIs(x, "all nine", 1, 511, 511, 0);
        x.forget();
        x.book(7, 0, 19);
        fittingIs(x, "none of nine", 1, 0, 0, 511);
        x.forget();
        x.book(7, 0, 17);
        fittingIs(x, "any one of nine", 9, 1, 0, 0);
        x.forget();
        x.book(7, 0, 3);
        fittingIs(x, "any eight of nine", 9, 255, 0, 0);
        x.event(1, 1, 8, 6, 0);
        x.book(7, 1, 3);
        fittingIs(x, "the ninth and seven more", 8, 383, 256, 0);
    }

    /** "such that all BOOKS come out so": the eighth too */
    private static void fittingByTheLastBook() {
        LuckyStolen x = Due.with("0r");
        x.event(0, 0, 0, 1, 0);
        for (int b = 0; b < 7; b++) {
            x.book(0, b, 1);
        }
        fittingIs(x, "seven that tell nothing", 2, 0, 0, 0);
        x.book(1, 0, 1);
        fittingIs(x, "the eighth tells", 1, 1, 1, 0);
        LuckyStolen y = Due.with("0r");
        y.event(0, 0, 0, 1, 0);
        y.book(1, 0, 1);
        for (int b = 1; b < 8; b++) {
            y.book(0, b, 1);
        }
        fittingIs(y, "the first tells", 1, 1, 1, 0);
    }

    /** A BOOK of the first and the last NIGHT of luck, of the one before and the one behind */
    private static void fittingInTheLastNights() {
        int[] nights = {98, 99, 297, 298, 299, 0};
        int[] sets = {2, 1, 1, 2, 2, 2};
        for (int i = 0; i < nights.length; i++) {
            LuckyStolen x = Due.with("0r");
            x.lasts(99);
            x.event(0, 99, 0, 1, 0);
            x.event(0, 198, 0, 2, 0);
            x.event(0, 199, 0, 1, 0);
            x.book(1, nights[i], 1);
            due.is("a book of night " + nights[i] + ": fitting(0)", x.fitting(0), sets[i]);
        }
    }

    /** EGGS that can never be: an even number, none, more than all STONES bring */
    private static void fittingOfEggs() {
        for (int eggs = 0; eggs <= 19; eggs++) {
            LuckyStolen x = Due.with("0r0r");
            x.event(0, 0, 0, 1, 0);
            x.event(0, 0, 1, 1, 0);
            x.book(1, 0, eggs);
            due.is(eggs + " eggs: fitting(0)", x.fitting(0), eggs == 1 || eggs == 5 ? 1 : eggs == 3 ? 2 : 0);
        }
    }

    /** "all else as told": what is told of the STONES stays. */
    private static void fittingChangesNothing() {
        for (State state : State.values()) {
            LuckyStolen x = state.anew();
            long before = x.digest();
            for (int what = 0; what <= 3; what++) {
                x.fitting(what);
            }
            due.is(state + ": digest() behind fitting()", x.digest(), before);
        }
        LuckyStolen x = Due.with("0f");
        x.event(0, 0, 0, 1, 0);
        x.book(1, 0, 3);
        fittingIs(x, "real, though told to be forged", 1, 0, 0, 1);
        due.is("stone(0, 1)", x.stone(0, 1), 1);
        due.is("at(0, 0, 1)", x.at(0, 0, 1), 0);
    }
}
