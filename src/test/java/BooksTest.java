/** Promises 16 to 18: book, forget, fitting. */
public final class BooksTest {
    private static final Due due = new Due("BooksTest");

    public static void main(String[] args) {
        book();
        forget();
        fitting();
        fittingWithoutStones();
        fittingByNights();
        due.end();
    }

    private static void book() {
        LuckyStolen x = new LuckyStolen();
        due.is("book(-1, 0, 0)", x.book(-1, 0, 0), -2);
        due.is("book(8, 0, 0)", x.book(8, 0, 0), -2);
        due.is("book(0, -1, 0)", x.book(0, -1, 0), -2);
        due.is("book(0, 300, 0)", x.book(0, 300, 0), -2);
        due.is("book(0, 0, -1)", x.book(0, 0, -1), -2);
        due.is("book(0, 0, 20)", x.book(0, 0, 20), -2);
        due.is("count(6)", x.count(6), 0);
        due.is("book(0, 0, 0)", x.book(0, 0, 0), 1);
        due.is("book(7, 299, 19)", x.book(7, 299, 19), 2);
        for (int i = 3; i <= 8; i++) {
            due.is("book " + i, x.book(0, 0, 0), i);
        }
        due.is("a ninth", x.book(0, 0, 0), -4);
        due.is("a bad ninth", x.book(0, 0, 20), -2);
        due.is("count(6)", x.count(6), 8);
    }

    private static void forget() {
        LuckyStolen x = new LuckyStolen();
        due.is("forget() of none", x.forget(), 0);
        x.book(0, 0, 5);
        x.book(0, 0, 5);
        due.is("fitting(0)", x.fitting(0), 0);
        due.is("forget()", x.forget(), 2);
        due.is("count(6)", x.count(6), 0);
        due.is("fitting(0) again", x.fitting(0), 1);
        due.is("book behind forget()", x.book(0, 0, 1), 1);
    }

    private static void fittingIs(LuckyStolen x, String when, int sets, int least, int inAll, int inNone) {
        due.is(when + ": fitting(0)", x.fitting(0), sets);
        due.is(when + ": fitting(1)", x.fitting(1), least);
        due.is(when + ": fitting(2)", x.fitting(2), inAll);
        due.is(when + ": fitting(3)", x.fitting(3), inNone);
    }

    private static void fitting() {
        LuckyStolen x = Due.with("0f1r2r3r");
        x.event(0, 0, 0, 5, 0);
        x.event(0, 0, 1, 5, 0);
        x.event(0, 0, 2, 6, 0);
        fittingIs(x, "no books", 16, 0, 0, 0);
        x.book(5, 0, 3);
        fittingIs(x, "one of 0 and 1", 8, 1, 0, 0);
        x.book(6, 0, 3);
        fittingIs(x, "2 is real", 4, 1, 0, 4);
        x.book(3, 0, 1);
        fittingIs(x, "3 may be either", 4, 1, 0, 4);
        x.book(5, 0, 3);
        fittingIs(x, "the same again", 4, 1, 0, 4);
        x.book(5, 30, 1);
        fittingIs(x, "too late to tell", 4, 1, 0, 4);
        x.book(6, 29, 1);
        fittingIs(x, "2 is forged too", 0, -1, -1, -1);
        due.is("fitting(-1)", x.fitting(-1), -2);
        due.is("fitting(4)", x.fitting(4), -2);
        x.forget();
        x.book(5, 0, 1);
        x.book(6, 0, 3);
        fittingIs(x, "0 and 1 forged, whatever is told", 2, 3, 3, 4);
        x.forget();
        x.book(5, 0, 2);
        fittingIs(x, "eggs are odd", 0, -1, -1, -1);
        due.is("stone(1, 1) is as told", x.stone(1, 1), 0);
    }

    private static void fittingWithoutStones() {
        LuckyStolen x = Due.with("0r1");
        fittingIs(x, "a fault", 1, 0, 0, 0);
        x.book(0, 0, 1);
        fittingIs(x, "a fault, one egg", 1, 0, 0, 0);
        x.book(0, 0, 3);
        fittingIs(x, "a fault, three eggs", 0, -1, -1, -1);
    }

    private static void fittingByNights() {
        LuckyStolen x = Due.with("0r1r2r3r4r5r6r7r0r");
        for (int s = 0; s < 9; s++) {
            x.event(0, s, s, (s + 1) % 8, 0);
        }
        for (int s = 7; s >= 0; s--) {
            x.book((s + 1) % 8, s, s % 2 == 0 ? 1 : 3);
        }
        fittingIs(x, "nights fall from book to book", 2, 0x55, 0x55, 0xaa);
        x.lasts(1);
        x.undo();
        fittingIs(x, "lasts(1)", 2, 0x55, 0x55, 0xaa);
        x.event(5, 8, 8, 0, 0);
        fittingIs(x, "events later than the books", 2, 0x55, 0x55, 0xaa);
    }
}
