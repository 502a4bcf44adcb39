/** Objects in which a refused call could do harm; each is made in at most 110 calls, always in the same way. */
enum State {
    /** Nothing has been told. */
    NEW,
    /** Something of everything, sheet 3 LOST, and CAST the latest finding. */
    BUSY,
    /** A text that is full and has a FAULT, rows of no items, no finding. */
    FAULTY,
    /** Nine stones, 40 events, 8 books, rows of 60 items, and SIZE the latest finding. */
    FULL;

    static final String NINE = "0r1r2f3r4r5f6r7r0r";

    LuckyStolen anew() {
        LuckyStolen x = new LuckyStolen();
        switch (this) {
            case BUSY -> makeBusy(x);
            case FAULTY -> makeFaulty(x);
            case FULL -> makeFull(x);
            default -> { }
        }
        return x;
    }

    private static void makeBusy(LuckyStolen x) {
        Due.type(x, "0r1f2r3r4f");
        x.lasts(12);
        x.event(0, 1, 0, 3, 0);
        x.event(0, 1, 1, 3, 1);
        x.event(0, 2, 2, 3, 2);
        x.event(0, 2, 3, 4, 5);
        x.event(3, 7, 0, 3, 0);
        x.event(0, 18, 2, 6, 7);
        x.event(5, 18, 2, 5, 0);
        x.book(3, 5, 3);
        x.book(4, 6, 3);
        x.guard(2, 16);
        x.guard(3, 1);
        x.sheet(0, 0, 7);
        x.sheet(1, 1, 10);
        x.sheet(2, 2, 60);
        for (int i = 0; i < 7; i++) {
            x.lay(0, 0, i, 100 + i);
            x.lay(1, 1, i, 1000 + i);
            x.lay(2, 2, i, 100000 + i);
        }
        x.get(0, 1, 0);
    }

    private static void makeFaulty(LuckyStolen x) {
        Due.type(x, NINE + "1r2r3r4r5r6r");
        x.event(0, 0, 0, 3, 0);
        x.event(1, 5, 0, 4, 0);
        x.book(0, 0, 1);
        x.guard(0, 0);
        x.guard(7, 16);
        for (int s = 0; s < 4; s++) {
            x.sheet(s, s % 3, 0);
        }
    }

    private static void makeFull(LuckyStolen x) {
        Due.type(x, NINE);
        x.lasts(99);
        for (int e = 0; e < 40; e++) {
            x.event(e % 7 == 6 ? 1 : 0, Math.min(199, 5 * e + 9), e % 9, (3 * e + 1) % 8, 0);
        }
        for (int house = 0; house < 8; house++) {
            x.book(house, 299 - 30 * house, x.luck(house, 299 - 30 * house, 1));
            x.guard(house, 2 * house + 2);
        }
        for (int s = 0; s < 4; s++) {
            x.sheet(s, s % 3, 60);
            x.lay(s, s % 3, 0, 1 + s);
            x.lay(s, s % 3, 59, 11 + s);
        }
        x.sheet(0, 0, -1);
    }
}
