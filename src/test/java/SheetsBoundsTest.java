/** The boundary cases of promises 26 to 31: sheet, lose, lay, get, copy, write. */
public final class SheetsBoundsTest {
    private static final Due due = new Due("SheetsBoundsTest");
    private static final Refusals refusals = new Refusals(due);
    private static final int[] LEAST_ITEM = {-128, -32768, Integer.MIN_VALUE};
    private static final int[] MOST_ITEM = {127, 32767, Integer.MAX_VALUE};

    public static void main(String[] args) {
        sheetSheets();
        sheetForms();
        sheetAboveSixty();
        sheetSize();
        sheetBadAheadOfSize();
        sheetOfEverySize();
        sheetIsNew();
        loseSheets();
        loseOfALostOne();
        loseHowMany();
        laySheets();
        layForms();
        layOfALostOne();
        layCast();
        layIndex();
        layFirstThatFits();
        layLowestBits();
        getBad();
        getOfALostOne();
        getCast();
        getIndex();
        getFirstThatFits();
        getEveryItem();
        copySheets();
        copyOfLostOnes();
        copyStore();
        copyIndexBelow();
        copyIndexNotSoMany();
        copyFirstThatFits();
        copyOfNoneAndOfAll();
        copyWithinItself();
        writeHouses();
        writeNights();
        writeSheets();
        writeToALostOne();
        writeAsManyAsThereAre();
        writeNightByNight();
        findingsLatest();
        due.end();
    }

    /** "BAD: SHEET" */
    private static void sheetSheets() {
        for (int s : Refusals.outside(0, 3)) {
            refusals.bad("sheet(" + s + ", 0, 0)", x -> x.sheet(s, 0, 0));
            refusals.bad("sheet(" + s + ", 2, 60)", x -> x.sheet(s, 2, 60));
        }
        for (int s = 0; s <= 3; s++) {
            LuckyStolen x = new LuckyStolen();
            due.is("sheet(" + s + ", 0, 5)", x.sheet(s, 0, 5), 5);
            for (int other = 0; other <= 3; other++) {
                due.is("lose(" + other + "), only " + s + " being a row", x.lose(other), other == s ? 5 : -11);
            }
        }
    }

    /** "BAD: ... FORM": 0 bytes, 1 shorts, 2 ints */
    private static void sheetForms() {
        for (int form : Refusals.outside(0, 2)) {
            refusals.bad("sheet(0, " + form + ", 0)", x -> x.sheet(0, form, 0));
            refusals.bad("sheet(3, " + form + ", 60)", x -> x.sheet(3, form, 60));
        }
        for (int form = 0; form <= 2; form++) {
            due.is("sheet(0, " + form + ", 1)", new LuckyStolen().sheet(0, form, 1), 1);
        }
    }

    /** "BAD: ... above 60" */
    private static void sheetAboveSixty() {
        for (int f = 0; f <= 2; f++) {
            int form = f;
            refusals.bad("sheet(0, " + f + ", 61)", x -> x.sheet(0, form, 61));
            refusals.bad("sheet(3, " + f + ", much)", x -> x.sheet(3, form, Integer.MAX_VALUE));
        }
    }

    /** "SIZE: below 0" */
    private static void sheetSize() {
        for (int f = 0; f <= 2; f++) {
            int form = f;
            refusals.found("sheet(0, " + f + ", -1)", x -> x.sheet(0, form, -1), Refusals.SIZE, State.values());
            refusals.found("sheet(3, " + f + ", least)", x -> x.sheet(3, form, Integer.MIN_VALUE), Refusals.SIZE,
                    State.values());
        }
    }

    /** "the first that fits, in the order told": BAD, then SIZE. */
    private static void sheetBadAheadOfSize() {
        refusals.bad("sheet(4, 0, -1)", x -> x.sheet(4, 0, -1));
        refusals.bad("sheet(-1, 0, -1)", x -> x.sheet(-1, 0, -1));
        refusals.bad("sheet(0, 3, -1)", x -> x.sheet(0, 3, -1));
        refusals.bad("sheet(0, -1, -1)", x -> x.sheet(0, -1, -1));
    }

    /** "with n items: n", "of 0 to 60 items" */
    private static void sheetOfEverySize() {
        for (int form = 0; form <= 2; form++) {
            for (int n = 0; n <= 60; n++) {
                LuckyStolen x = new LuckyStolen();
                due.is("sheet(2, " + form + ", " + n + ")", x.sheet(2, form, n), n);
                due.is("the item behind the last", x.get(2, form, n), Refusals.LEAST_INT);
                due.is("count(8)", x.count(8), 2);
                if (n > 0) {
                    due.is("the last item", x.get(2, form, n - 1), 0);
                }
                due.is("lose(2)", x.lose(2), n);
            }
        }
    }

    /** "a new row"; "(0 at first)": whatever stood there before, in whatever FORM, also behind lose() */
    private static void sheetIsNew() {
        for (int before = 0; before <= 2; before++) {
            for (int form = 0; form <= 2; form++) {
                LuckyStolen x = new LuckyStolen();
                x.sheet(1, before, 60);
                for (int i = 0; i < 60; i++) {
                    x.lay(1, before, i, 5);
                }
                if (before == form) {
                    x.lose(1);
                }
                due.is("sheet(1, " + form + ", 60) anew", x.sheet(1, form, 60), 60);
                for (int i = 0; i < 60; i++) {
                    due.is("item " + i, x.get(1, form, i), 0);
                }
                due.is("sheet(1, " + form + ", 1), shorter", x.sheet(1, form, 1), 1);
                due.is("item 1 is there no more", x.get(1, form, 1), Refusals.LEAST_INT);
            }
        }
    }

    /** "BAD" */
    private static void loseSheets() {
        for (int s : Refusals.outside(0, 3)) {
            refusals.bad("lose(" + s + ")", x -> x.lose(s));
        }
    }

    /** "NULL" */
    private static void loseOfALostOne() {
        for (int s = 0; s <= 3; s++) {
            int sheet = s;
            refusals.found("lose(" + s + ")", x -> x.lose(sheet), Refusals.NULL, State.NEW);
        }
        refusals.found("lose(3)", x -> x.lose(3), Refusals.NULL, State.BUSY);
        LuckyStolen x = State.FULL.anew();
        due.is("lose(3)", x.lose(3), 60);
        due.is("count(8): no finding by that", x.count(8), 5);
        due.is("lose(3) again", x.lose(3), -11);
        due.is("count(8)", x.count(8), 1);
    }

    /** "how many items it had": from none to 60 */
    private static void loseHowMany() {
        LuckyStolen x = new LuckyStolen();
        for (int n = 0; n <= 60; n++) {
            x.sheet(n % 4, n % 3, n);
            due.is("lose of " + n, x.lose(n % 4), n);
            due.is("lose again", x.lose(n % 4), -11);
        }
    }

    /** "BAD" */
    private static void laySheets() {
        for (int s : Refusals.outside(0, 3)) {
            refusals.bad("lay(" + s + ", 0, 0, 7)", x -> x.lay(s, 0, 0, 7));
        }
        for (int s = 0; s <= 3; s++) {
            LuckyStolen x = State.FULL.anew();
            due.is("lay(" + s + ", .., 30, 7)", x.lay(s, s % 3, 30, 7), 1);
            for (int other = 0; other <= 3; other++) {
                due.is("item 30 of " + other, x.get(other, other % 3, 30), other == s ? 7 : 0);
            }
        }
    }

    /** "BAD": a FORM that is none */
    private static void layForms() {
        for (int form : Refusals.outside(0, 2)) {
            for (int s = 0; s <= 3; s++) {
                int sheet = s;
                refusals.bad("lay(" + s + ", " + form + ", 0, 7)", x -> x.lay(sheet, form, 0, 7));
            }
        }
    }

    /** "NULL" */
    private static void layOfALostOne() {
        for (int f = 0; f <= 2; f++) {
            int form = f;
            refusals.found("lay(3, " + f + ", 0, 7)", x -> x.lay(3, form, 0, 7), Refusals.NULL, State.NEW, State.BUSY);
        }
    }

    /** "CAST: it has another FORM" */
    private static void layCast() {
        for (int s = 0; s <= 2; s++) {
            for (int f = 0; f <= 2; f++) {
                int sheet = s;
                int form = f;
                if (form != sheet) {
                    refusals.found("lay(" + s + ", " + f + ", 0, 7)", x -> x.lay(sheet, form, 0, 7), Refusals.CAST,
                            State.BUSY, State.FULL, State.FAULTY);
                }
            }
        }
    }

    /** "INDEX: there is no such item" */
    private static void layIndex() {
        int[] sizes = {7, 10, 60};
        for (int s = 0; s <= 2; s++) {
            int sheet = s;
            for (int i : Refusals.outside(0, sizes[s] - 1)) {
                refusals.found("lay(" + s + ", " + s + ", " + i + ", 7)", x -> x.lay(sheet, sheet, i, 7), Refusals.INDEX,
                        State.BUSY);
            }
            refusals.found("lay of no items", x -> x.lay(sheet, sheet, 0, 7), Refusals.INDEX, State.FAULTY);
            refusals.found("lay of item 60", x -> x.lay(sheet, sheet, 60, 7), Refusals.INDEX, State.FULL);
            LuckyStolen x = State.BUSY.anew();
            due.is("lay of the first item", x.lay(s, s, 0, 7), 1);
            due.is("lay of the last item", x.lay(s, s, sizes[s] - 1, 8), 1);
            due.is("the first item", x.get(s, s, 0), 7);
            due.is("the last item", x.get(s, s, sizes[s] - 1), 8);
        }
    }

    /** "the first that fits, in the order told": BAD, NULL, CAST, INDEX. */
    private static void layFirstThatFits() {
        refusals.bad("lay(4, 3, -1, 7)", x -> x.lay(4, 3, -1, 7));
        refusals.refused("lay(3, 3, 0, 7): BAD, NULL", x -> x.lay(3, 3, 0, 7), Refusals.BAD, State.NEW, State.BUSY);
        refusals.refused("lay(0, 3, 60, 7): BAD, INDEX", x -> x.lay(0, 3, 60, 7), Refusals.BAD, State.BUSY, State.FULL);
        refusals.found("lay(3, 0, 60, 7): NULL, INDEX", x -> x.lay(3, 0, 60, 7), Refusals.NULL, State.NEW, State.BUSY);
        refusals.found("lay(3, 2, -1, 7): NULL, INDEX", x -> x.lay(3, 2, -1, 7), Refusals.NULL, State.NEW, State.BUSY);
        refusals.found("lay(0, 1, 60, 7): CAST, INDEX", x -> x.lay(0, 1, 60, 7), Refusals.CAST, State.BUSY, State.FULL);
        refusals.found("lay(2, 0, -1, 7): CAST, INDEX", x -> x.lay(2, 0, -1, 7), Refusals.CAST, State.BUSY, State.FAULTY);
    }

    /** "becomes v (the lowest bits that it has)" */
    private static void layLowestBits() {
        LuckyStolen x = new LuckyStolen();
        for (int form = 0; form <= 2; form++) {
            x.sheet(form, form, 2);
            int least = LEAST_ITEM[form];
            int most = MOST_ITEM[form];
            int[] laid = {least, most, least + 1, most - 1, 0, -1, most + 1, least - 1, most + 2, least - 2};
            int[] want = {least, most, least + 1, most - 1, 0, -1, least, most, least + 1, most - 1};
            for (int i = 0; i < laid.length; i++) {
                laid(x, form, laid[i], want[i]);
            }
        }
        laid(x, 0, 256, 0);
        laid(x, 0, 255, -1);
        laid(x, 0, Integer.MIN_VALUE, 0);
        laid(x, 0, Integer.MAX_VALUE, -1);
        laid(x, 0, 0x12345678, 0x78);
        laid(x, 1, 65536, 0);
        laid(x, 1, 65535, -1);
        laid(x, 1, Integer.MIN_VALUE, 0);
        laid(x, 1, Integer.MAX_VALUE, -1);
        laid(x, 1, 0x12345678, 0x5678);
        laid(x, 2, 0x12345678, 0x12345678);
    }

    private static void laid(LuckyStolen x, int form, int v, int want) {
        due.is("lay(" + form + ", " + form + ", 1, " + v + ")", x.lay(form, form, 1, v), 1);
        due.is("get behind lay of " + v, x.get(form, form, 1), want);
        due.is("the item ahead of it", x.get(form, form, 0), 0);
    }

    /** "BAD: the least int", and no finding */
    private static void getBad() {
        for (int s : Refusals.outside(0, 3)) {
            refusals.refused("get(" + s + ", 0, 0)", x -> x.get(s, 0, 0), Refusals.LEAST_INT, State.values());
        }
        for (int form : Refusals.outside(0, 2)) {
            for (int s = 0; s <= 3; s++) {
                int sheet = s;
                refusals.refused("get(" + s + ", " + form + ", 0)", x -> x.get(sheet, form, 0), Refusals.LEAST_INT,
                        State.values());
            }
        }
    }

    private static void getFinds(String call, Refusals.Call c, int finding, State... states) {
        refusals.found(call, c, finding, Refusals.LEAST_INT, states);
    }

    /** "so are NULL ... (count() 8 tells)" */
    private static void getOfALostOne() {
        for (int f = 0; f <= 2; f++) {
            int form = f;
            getFinds("get(3, " + f + ", 0)", x -> x.get(3, form, 0), Refusals.NULL, State.NEW, State.BUSY);
        }
    }

    /** "so are ... CAST" */
    private static void getCast() {
        for (int s = 0; s <= 2; s++) {
            for (int f = 0; f <= 2; f++) {
                int sheet = s;
                int form = f;
                if (form != sheet) {
                    getFinds("get(" + s + ", " + f + ", 0)", x -> x.get(sheet, form, 0), Refusals.CAST,
                            State.BUSY, State.FULL, State.FAULTY);
                }
            }
        }
    }

    /** "so are ... INDEX" */
    private static void getIndex() {
        int[] sizes = {7, 10, 60};
        for (int s = 0; s <= 2; s++) {
            int sheet = s;
            for (int i : Refusals.outside(0, sizes[s] - 1)) {
                getFinds("get(" + s + ", " + s + ", " + i + ")", x -> x.get(sheet, sheet, i), Refusals.INDEX, State.BUSY);
            }
            getFinds("get of no items", x -> x.get(sheet, sheet, 0), Refusals.INDEX, State.FAULTY);
            getFinds("get of item 60", x -> x.get(sheet, sheet, 60), Refusals.INDEX, State.FULL);
        }
        LuckyStolen x = State.BUSY.anew();
        due.is("get(0, 0, 0)", x.get(0, 0, 0), 100);
        due.is("get(0, 0, 6)", x.get(0, 0, 6), 106);
        due.is("get(1, 1, 9)", x.get(1, 1, 9), 0);
        due.is("get(2, 2, 59)", x.get(2, 2, 59), 0);
        due.is("count(8): none of these is a finding", x.count(8), 3);
    }

    /** "the first that fits": BAD (no finding), NULL, CAST, INDEX. */
    private static void getFirstThatFits() {
        refusals.refused("get(3, 3, 0): BAD, NULL", x -> x.get(3, 3, 0), Refusals.LEAST_INT, State.NEW, State.BUSY);
        refusals.refused("get(0, 3, 60): BAD, INDEX", x -> x.get(0, 3, 60), Refusals.LEAST_INT, State.BUSY, State.FULL);
        getFinds("get(3, 0, 60): NULL, INDEX", x -> x.get(3, 0, 60), Refusals.NULL, State.NEW, State.BUSY);
        getFinds("get(3, 2, -1): NULL, INDEX", x -> x.get(3, 2, -1), Refusals.NULL, State.NEW, State.BUSY);
        getFinds("get(0, 1, 60): CAST, INDEX", x -> x.get(0, 1, 60), Refusals.CAST, State.BUSY, State.FULL);
        getFinds("get(2, 0, -1): CAST, INDEX", x -> x.get(2, 0, -1), Refusals.CAST, State.BUSY, State.FAULTY);
    }

    /** "Item i of it": every one of 60, and the least int as an item, which is no finding */
    private static void getEveryItem() {
        for (int form = 0; form <= 2; form++) {
            LuckyStolen x = new LuckyStolen();
            x.sheet(3, form, 60);
            for (int i = 0; i < 60; i++) {
                due.is("lay(3, " + form + ", " + i + ", ..)", x.lay(3, form, i, 60 - i), 1);
            }
            for (int i = 0; i < 60; i++) {
                due.is("get(3, " + form + ", " + i + ")", x.get(3, form, i), 60 - i);
            }
        }
        LuckyStolen x = new LuckyStolen();
        x.sheet(3, 2, 1);
        x.lay(3, 2, 0, Integer.MIN_VALUE);
        due.is("get(3, 2, 0) of the least int", x.get(3, 2, 0), Integer.MIN_VALUE);
        due.is("count(8): no finding", x.count(8), 0);
    }

    /** "BAD: the SHEETS" */
    private static void copySheets() {
        for (int s : Refusals.outside(0, 3)) {
            refusals.bad("copy(" + s + ", 0, 0, 0, 0)", x -> x.copy(s, 0, 0, 0, 0));
            refusals.bad("copy(0, 0, " + s + ", 0, 0)", x -> x.copy(0, 0, s, 0, 0));
            refusals.bad("copy(" + s + ", 0, " + s + ", 0, 1)", x -> x.copy(s, 0, s, 0, 1));
        }
        for (int s = 0; s <= 3; s++) {
            for (int t = 0; t <= 3; t++) {
                LuckyStolen x = new LuckyStolen();
                x.sheet(s, 1, 3);
                x.lay(s, 1, 1, 9);
                if (t != s) {
                    x.sheet(t, 1, 3);
                }
                due.is("copy(" + s + ", 1, " + t + ", 2, 1)", x.copy(s, 1, t, 2, 1), 1);
                due.is("get(" + t + ", 1, 2)", x.get(t, 1, 2), 9);
            }
        }
    }

    /** "NULL: s, t" */
    private static void copyOfLostOnes() {
        refusals.found("copy(3, 0, 0, 0, 0)", x -> x.copy(3, 0, 0, 0, 0), Refusals.NULL, State.NEW, State.BUSY);
        refusals.found("copy(0, 0, 3, 0, 0)", x -> x.copy(0, 0, 3, 0, 0), Refusals.NULL, State.NEW, State.BUSY);
        refusals.found("copy(3, 0, 3, 0, 0)", x -> x.copy(3, 0, 3, 0, 0), Refusals.NULL, State.NEW, State.BUSY);
    }

    /** "STORE: unlike FORMS" */
    private static void copyStore() {
        for (int s = 0; s <= 2; s++) {
            for (int t = 0; t <= 2; t++) {
                int from = s;
                int to = t;
                if (s != t) {
                    String call = "copy(" + s + ", 0, " + t + ", 0, ";
                    refusals.found(call + "1)", x -> x.copy(from, 0, to, 0, 1), Refusals.STORE, State.BUSY, State.FULL);
                    refusals.found(call + "0)", x -> x.copy(from, 0, to, 0, 0), Refusals.STORE, State.BUSY, State.FAULTY);
                }
            }
        }
    }

    /** "INDEX: below 0" */
    private static void copyIndexBelow() {
        int[] below = {-1, Integer.MIN_VALUE};
        for (int v : below) {
            State[] rows = {State.BUSY, State.FAULTY, State.FULL};
            refusals.found("copy(0, " + v + ", 0, 0, 0)", x -> x.copy(0, v, 0, 0, 0), Refusals.INDEX, rows);
            refusals.found("copy(0, " + v + ", 0, 0, 1)", x -> x.copy(0, v, 0, 0, 1), Refusals.INDEX, rows);
            refusals.found("copy(1, 0, 1, " + v + ", 0)", x -> x.copy(1, 0, 1, v, 0), Refusals.INDEX, rows);
            refusals.found("copy(1, 0, 1, " + v + ", 1)", x -> x.copy(1, 0, 1, v, 1), Refusals.INDEX, rows);
            refusals.found("copy(2, 0, 2, 0, " + v + ")", x -> x.copy(2, 0, 2, 0, v), Refusals.INDEX, rows);
        }
    }

    /** "INDEX: ... not so many", in s or in t */
    private static void copyIndexNotSoMany() {
        refusals.found("copy(0, 0, 0, 0, 8)", x -> x.copy(0, 0, 0, 0, 8), Refusals.INDEX, State.BUSY);
        refusals.found("copy(0, 1, 0, 0, 7)", x -> x.copy(0, 1, 0, 0, 7), Refusals.INDEX, State.BUSY);
        refusals.found("copy(0, 0, 0, 1, 7)", x -> x.copy(0, 0, 0, 1, 7), Refusals.INDEX, State.BUSY);
        refusals.found("copy(0, 6, 0, 0, 2)", x -> x.copy(0, 6, 0, 0, 2), Refusals.INDEX, State.BUSY);
        refusals.found("copy(0, 0, 0, 6, 2)", x -> x.copy(0, 0, 0, 6, 2), Refusals.INDEX, State.BUSY);
        refusals.found("copy(0, 7, 0, 0, 1)", x -> x.copy(0, 7, 0, 0, 1), Refusals.INDEX, State.BUSY);
        refusals.found("copy(0, 0, 0, 7, 1)", x -> x.copy(0, 0, 0, 7, 1), Refusals.INDEX, State.BUSY);
        refusals.found("copy(0, 0, 3, 0, 61)", x -> x.copy(0, 0, 3, 0, 61), Refusals.INDEX, State.FULL);
        refusals.found("copy(3, 60, 0, 0, 1)", x -> x.copy(3, 60, 0, 0, 1), Refusals.INDEX, State.FULL);
        refusals.found("copy(3, 0, 0, 1, 60)", x -> x.copy(3, 0, 0, 1, 60), Refusals.INDEX, State.FULL);
        refusals.found("copy(0, 0, 3, 0, 1)", x -> x.copy(0, 0, 3, 0, 1), Refusals.INDEX, State.FAULTY);
        int much = Integer.MAX_VALUE;
        State[] rows = {State.BUSY, State.FAULTY, State.FULL};
        refusals.found("copy(0, much, 0, 0, 1)", x -> x.copy(0, much, 0, 0, 1), Refusals.INDEX, rows);
        refusals.found("copy(0, 0, 0, much, 1)", x -> x.copy(0, 0, 0, much, 1), Refusals.INDEX, rows);
        refusals.found("copy(0, 0, 0, 0, much)", x -> x.copy(0, 0, 0, 0, much), Refusals.INDEX, rows);
        refusals.found("copy(0, 1, 0, 1, much)", x -> x.copy(0, 1, 0, 1, much), Refusals.INDEX, rows);
        refusals.found("copy(0, much, 0, much, much)", x -> x.copy(0, much, 0, much, much), Refusals.INDEX, rows);
        LuckyStolen x = new LuckyStolen();
        x.sheet(0, 1, 5);
        x.sheet(1, 1, 3);
        due.is("four of five to three", x.copy(0, 0, 1, 0, 4), -12);
        due.is("four of three to five", x.copy(1, 0, 0, 0, 4), -12);
        due.is("three of three to five", x.copy(1, 0, 0, 2, 3), 1);
        due.is("three of five to three", x.copy(0, 2, 1, 0, 3), 1);
    }

    /** "the first that fits, in the order told": BAD, NULL, STORE, INDEX. */
    private static void copyFirstThatFits() {
        refusals.refused("copy(3, 0, 4, 0, 0): NULL, BAD", x -> x.copy(3, 0, 4, 0, 0), Refusals.BAD, State.NEW, State.BUSY);
        refusals.refused("copy(-1, 0, 3, 0, 0): BAD, NULL", x -> x.copy(-1, 0, 3, 0, 0), Refusals.BAD, State.NEW, State.BUSY);
        refusals.bad("copy(0, -1, 4, -1, -1): BAD, INDEX", x -> x.copy(0, -1, 4, -1, -1));
        refusals.found("copy(3, -1, 0, 0, 0): NULL, INDEX", x -> x.copy(3, -1, 0, 0, 0), Refusals.NULL, State.NEW, State.BUSY);
        refusals.found("copy(0, -1, 3, 0, 0): NULL, INDEX", x -> x.copy(0, -1, 3, 0, 0), Refusals.NULL, State.NEW, State.BUSY);
        refusals.found("copy(0, 0, 3, 0, 99): NULL, INDEX", x -> x.copy(0, 0, 3, 0, 99), Refusals.NULL, State.NEW, State.BUSY);
        refusals.found("copy(0, -1, 1, 0, 0): STORE, INDEX", x -> x.copy(0, -1, 1, 0, 0), Refusals.STORE,
                State.BUSY, State.FAULTY, State.FULL);
        refusals.found("copy(2, 0, 1, 0, 61): STORE, INDEX", x -> x.copy(2, 0, 1, 0, 61), Refusals.STORE,
                State.BUSY, State.FAULTY, State.FULL);
        refusals.found("copy(1, 0, 2, 0, -1): STORE, INDEX", x -> x.copy(1, 0, 2, 0, -1), Refusals.STORE,
                State.BUSY, State.FAULTY, State.FULL);
    }

    /** n of 0, also at the ends of the rows and of empty rows; n of 60 */
    private static void copyOfNoneAndOfAll() {
        LuckyStolen x = State.FAULTY.anew();
        due.is("copy(0, 0, 3, 0, 0) of empty rows", x.copy(0, 0, 3, 0, 0), 1);
        due.is("copy(0, 0, 0, 0, 0) of an empty row", x.copy(0, 0, 0, 0, 0), 1);
        due.is("copy(0, 1, 3, 0, 0) beyond its end", x.copy(0, 1, 3, 0, 0), -12);
        due.is("copy(0, 0, 3, 1, 0) beyond its end", x.copy(0, 0, 3, 1, 0), -12);
        LuckyStolen y = State.FULL.anew();
        due.is("copy(0, 60, 3, 60, 0)", y.copy(0, 60, 3, 60, 0), 1);
        due.is("copy(0, 61, 3, 60, 0)", y.copy(0, 61, 3, 60, 0), -12);
        due.is("copy(0, 60, 3, 61, 0)", y.copy(0, 60, 3, 61, 0), -12);
        due.is("get(3, 0, 0): none came", y.get(3, 0, 0), 4);
        due.is("copy(0, 0, 3, 0, 60)", y.copy(0, 0, 3, 0, 60), 1);
        due.is("get(3, 0, 0)", y.get(3, 0, 0), 1);
        due.is("get(3, 0, 59)", y.get(3, 0, 59), 11);
        due.is("copy(0, 59, 3, 0, 1)", y.copy(0, 59, 3, 0, 1), 1);
        due.is("get(3, 0, 0)", y.get(3, 0, 0), 11);
        due.is("copy(0, 0, 3, 59, 1)", y.copy(0, 0, 3, 59, 1), 1);
        due.is("get(3, 0, 59)", y.get(3, 0, 59), 1);
        due.is("get(0, 0, 59): those that are copied stay", y.get(0, 0, 59), 11);
    }

    /** "to SHEET t (perhaps s, as they were)" */
    private static void copyWithinItself() {
        for (int form = 0; form <= 2; form++) {
            for (int from = 0; from <= 5; from++) {
                for (int to = 0; to <= 5; to++) {
                    int n = 5 - Math.max(from, to);
                    LuckyStolen x = new LuckyStolen();
                    x.sheet(0, form, 5);
                    for (int i = 0; i < 5; i++) {
                        x.lay(0, form, i, 50 + i);
                    }
                    due.is("copy(0, " + from + ", 0, " + to + ", " + n + ")", x.copy(0, from, 0, to, n), 1);
                    for (int i = 0; i < 5; i++) {
                        int want = i >= to && i < to + n ? 50 + i - to + from : 50 + i;
                        due.is("item " + i, x.get(0, form, i), want);
                    }
                }
            }
        }
    }

    /** "BAD" */
    private static void writeHouses() {
        for (int house : Refusals.outside(0, 7)) {
            refusals.bad("write(" + house + ", 0, 0)", x -> x.write(house, 0, 0));
        }
        LuckyStolen x = Due.with("0r1r");
        x.event(0, 0, 0, 7, 0);
        x.event(0, 0, 1, 0, 0);
        x.sheet(0, 0, 1);
        for (int house = 0; house <= 7; house++) {
            due.is("write(" + house + ", 0, 0)", x.write(house, 0, 0), 1);
            due.is("its eggs", x.get(0, 0, 0), house == 0 || house == 7 ? 3 : 1);
        }
    }

    /** "from one (0 to 299) on" */
    private static void writeNights() {
        for (int night : Refusals.outside(0, 299)) {
            refusals.bad("write(0, " + night + ", 0)", x -> x.write(0, night, 0));
            refusals.bad("write(7, " + night + ", 3)", x -> x.write(7, night, 3));
        }
    }

    /** "BAD": no such SHEET */
    private static void writeSheets() {
        for (int s : Refusals.outside(0, 3)) {
            refusals.bad("write(0, 0, " + s + ")", x -> x.write(0, 0, s));
        }
        for (int s = 0; s <= 3; s++) {
            due.is("write(0, 0, " + s + ")", State.FULL.anew().write(0, 0, s), 60);
            due.is("write(0, 0, " + s + ") of no items", State.FAULTY.anew().write(0, 0, s), 0);
        }
    }

    /** "BAD; NULL", the first that fits */
    private static void writeToALostOne() {
        refusals.found("write(0, 0, 3)", x -> x.write(0, 0, 3), Refusals.NULL, State.NEW, State.BUSY);
        refusals.found("write(7, 299, 3)", x -> x.write(7, 299, 3), Refusals.NULL, State.NEW, State.BUSY);
        refusals.refused("write(8, 0, 3): BAD, NULL", x -> x.write(8, 0, 3), Refusals.BAD, State.NEW, State.BUSY);
        refusals.refused("write(0, 300, 3): BAD, NULL", x -> x.write(0, 300, 3), Refusals.BAD, State.NEW, State.BUSY);
        refusals.refused("write(0, -1, 3): BAD, NULL", x -> x.write(0, -1, 3), Refusals.BAD, State.NEW, State.BUSY);
    }

    /** "as many as there are items and NIGHTS to 299: how many"; the items behind stay */
    private static void writeAsManyAsThereAre() {
        int[] sizes = {0, 1, 2, 59, 60};
        for (int size : sizes) {
            for (int night = 238; night <= 299; night++) {
                LuckyStolen x = Due.with("0r");
                x.lasts(99);
                x.event(0, 199, 0, 1, 0);
                x.sheet(0, 2, size);
                for (int i = 0; i < size; i++) {
                    x.lay(0, 2, i, 77);
                }
                int many = Math.min(size, 300 - night);
                due.is("write(1, " + night + ", 0) to " + size + " items", x.write(1, night, 0), many);
                for (int i = 0; i < size; i++) {
                    int eggs = night + i <= 297 ? 3 : 1;
                    due.is("item " + i + " from night " + night, x.get(0, 2, i), i < many ? eggs : 77);
                }
                due.is("count(8): no finding", x.count(8), 0);
            }
        }
        for (int form = 0; form <= 2; form++) {
            LuckyStolen x = Due.with("0r0r0r0r0r0r0r0r0r");
            for (int s = 0; s < 9; s++) {
                x.event(0, 0, s, 1, 0);
            }
            x.sheet(0, form, 60);
            due.is("form " + form + ": write(1, 0, 0)", x.write(1, 0, 0), 60);
            due.is("form " + form + ": the most eggs", x.get(0, form, 0), 19);
            due.is("form " + form + ": item 29", x.get(0, form, 29), 19);
            due.is("form " + form + ": item 30", x.get(0, form, 30), 1);
        }
    }

    /** "EGGS of a HOUSE at NIGHTS from one on": a theft and the end of its luck within the row */
    private static void writeNightByNight() {
        LuckyStolen x = Due.with("0r");
        x.event(0, 20, 0, 1, 0);
        x.sheet(0, 0, 60);
        for (int from = 0; from <= 5; from++) {
            due.is("write(1, " + from + ", 0)", x.write(1, from, 0), 60);
            due.is("the night before the theft", x.get(0, 0, 19 - from), 1);
            due.is("the night of the theft", x.get(0, 0, 20 - from), 3);
            due.is("the last night of luck", x.get(0, 0, 49 - from), 3);
            due.is("the night behind it", x.get(0, 0, 50 - from), 1);
        }
    }

    /** "8 the number of the latest FINDING (0 before any)": what is no finding leaves it. */
    private static void findingsLatest() {
        LuckyStolen x = new LuckyStolen();
        due.is("count(8) before any", x.count(8), 0);
        x.sheet(4, 0, 0);
        due.is("count(8) behind BAD", x.count(8), 0);
        x.undo();
        due.is("count(8) behind NOT", x.count(8), 0);
        x.sheet(0, 0, -1);
        due.is("count(8) behind SIZE", x.count(8), 5);
        x.sheet(0, 0, 2);
        x.sheet(1, 1, 2);
        due.is("count(8) behind good calls", x.count(8), 5);
        x.copy(0, 0, 1, 0, 1);
        due.is("count(8) behind STORE", x.count(8), 4);
        x.lay(0, 1, 0, 0);
        due.is("count(8) behind CAST", x.count(8), 3);
        x.lay(0, 0, 2, 0);
        due.is("count(8) behind INDEX", x.count(8), 2);
        x.read(2);
        due.is("count(8) behind NULL", x.count(8), 1);
        x.get(0, 1, 0);
        due.is("count(8) behind CAST of get()", x.count(8), 3);
        x.get(0, 3, 0);
        due.is("count(8) behind BAD of get()", x.count(8), 3);
        x.digest();
        due.is("count(8) behind digest()", x.count(8), 3);
    }
}
