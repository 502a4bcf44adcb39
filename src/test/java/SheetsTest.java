/** Promises 26 to 31: sheet, lose, lay, get, copy, write. */
public final class SheetsTest {
    private static final Due due = new Due("SheetsTest");
    private static final int LEAST = Integer.MIN_VALUE;

    public static void main(String[] args) {
        sheet();
        lose();
        lay();
        get();
        copy();
        copyRefusals();
        write();
        due.end();
    }

    private static void sheet() {
        LuckyStolen x = new LuckyStolen();
        due.is("sheet(-1, 0, 0)", x.sheet(-1, 0, 0), -2);
        due.is("sheet(4, 0, 0)", x.sheet(4, 0, 0), -2);
        due.is("sheet(0, -1, 0)", x.sheet(0, -1, 0), -2);
        due.is("sheet(0, 3, 0)", x.sheet(0, 3, 0), -2);
        due.is("sheet(0, 0, 61)", x.sheet(0, 0, 61), -2);
        due.is("sheet(0, 3, -1): BAD comes first", x.sheet(0, 3, -1), -2);
        due.is("count(8)", x.count(8), 0);
        due.is("sheet(0, 0, -1)", x.sheet(0, 0, -1), -15);
        due.is("count(8)", x.count(8), 5);
        due.is("lose(0): it is still LOST", x.lose(0), -11);
        due.is("sheet(0, 0, 60)", x.sheet(0, 0, 60), 60);
        due.is("sheet(3, 2, 0)", x.sheet(3, 2, 0), 0);
        x.lay(0, 0, 59, 7);
        x.lay(0, 0, 0, 8);
        due.is("sheet(0, 1, -1)", x.sheet(0, 1, -1), -15);
        due.is("sheet(0, 1, 61)", x.sheet(0, 1, 61), -2);
        due.is("get(0, 0, 59): refusals change nothing", x.get(0, 0, 59), 7);
        due.is("sheet(0, 0, 60) anew", x.sheet(0, 0, 60), 60);
        due.is("get(0, 0, 59) is 0 at first", x.get(0, 0, 59), 0);
        due.is("get(0, 0, 0) is 0 at first", x.get(0, 0, 0), 0);
    }

    private static void lose() {
        LuckyStolen x = new LuckyStolen();
        due.is("lose(-1)", x.lose(-1), -2);
        due.is("lose(4)", x.lose(4), -2);
        due.is("lose(1)", x.lose(1), -11);
        x.sheet(1, 1, 17);
        due.is("lose(1) of 17", x.lose(1), 17);
        due.is("lose(1) again", x.lose(1), -11);
        x.sheet(1, 1, 0);
        due.is("lose(1) of none", x.lose(1), 0);
        due.is("get(1, 1, 0)", x.get(1, 1, 0), LEAST);
        due.is("count(8)", x.count(8), 1);
    }

    private static void laid(LuckyStolen x, int s, int form, int v, int want) {
        due.is("lay(" + s + ", " + form + ", 1, " + v + ")", x.lay(s, form, 1, v), 1);
        due.is("get(" + s + ", " + form + ", 1)", x.get(s, form, 1), want);
    }

    private static void lay() {
        LuckyStolen x = new LuckyStolen();
        for (int form = 0; form <= 2; form++) {
            x.sheet(form, form, 3);
        }
        laid(x, 0, 0, 127, 127);
        laid(x, 0, 0, 128, -128);
        laid(x, 0, 0, 511, -1);
        laid(x, 1, 1, 32767, 32767);
        laid(x, 1, 1, 32768, -32768);
        laid(x, 1, 1, 65541, 5);
        laid(x, 2, 2, LEAST, LEAST);
        laid(x, 2, 2, 65541, 65541);
        due.is("lay(-1, 0, 0, 0)", x.lay(-1, 0, 0, 0), -2);
        due.is("lay(4, 0, 0, 0)", x.lay(4, 0, 0, 0), -2);
        due.is("lay(0, -1, 0, 0)", x.lay(0, -1, 0, 0), -2);
        due.is("lay(3, 3, 0, 0): BAD before NULL", x.lay(3, 3, 0, 0), -2);
        due.is("lay(3, 0, 9, 0): NULL before INDEX", x.lay(3, 0, 9, 0), -11);
        due.is("lay(0, 1, 9, 0): CAST before INDEX", x.lay(0, 1, 9, 0), -13);
        due.is("count(8)", x.count(8), 3);
        due.is("lay(0, 0, -1, 0)", x.lay(0, 0, -1, 0), -12);
        due.is("lay(0, 0, 3, 0)", x.lay(0, 0, 3, 0), -12);
        due.is("lay(0, 0, 2, 1)", x.lay(0, 0, 2, 1), 1);
        due.is("count(8): the latest stays", x.count(8), 2);
    }

    private static void got(LuckyStolen x, String call, int answer, int finding) {
        due.is(call, answer, LEAST);
        due.is("count(8) behind " + call, x.count(8), finding);
    }

    private static void get() {
        LuckyStolen x = new LuckyStolen();
        x.sheet(0, 1, 2);
        got(x, "get(-1, 0, 0)", x.get(-1, 0, 0), 0);
        got(x, "get(4, 0, 0)", x.get(4, 0, 0), 0);
        got(x, "get(0, 3, 0)", x.get(0, 3, 0), 0);
        got(x, "get(0, -1, 0)", x.get(0, -1, 0), 0);
        got(x, "get(1, 1, 0)", x.get(1, 1, 0), 1);
        got(x, "get(0, 2, 5)", x.get(0, 2, 5), 3);
        got(x, "get(0, 1, 2)", x.get(0, 1, 2), 2);
        got(x, "get(1, 0, 5)", x.get(1, 0, 5), 1);
        got(x, "get(0, 1, -1)", x.get(0, 1, -1), 2);
        due.is("get(0, 1, 1)", x.get(0, 1, 1), 0);
    }

    private static LuckyStolen counted() {
        LuckyStolen x = new LuckyStolen();
        x.sheet(0, 1, 6);
        x.sheet(1, 1, 4);
        x.sheet(2, 0, 4);
        for (int i = 0; i < 6; i++) {
            x.lay(0, 1, i, 10 + i);
        }
        return x;
    }

    private static void rowIs(LuckyStolen x, String when, int s, int... items) {
        for (int i = 0; i < items.length; i++) {
            due.is(when + ": item " + i, x.get(s, 1, i), items[i]);
        }
    }

    private static void copy() {
        LuckyStolen x = counted();
        due.is("copy(0, 2, 1, 1, 3)", x.copy(0, 2, 1, 1, 3), 1);
        rowIs(x, "another sheet", 1, 0, 12, 13, 14);
        due.is("copy(0, 0, 0, 2, 4)", x.copy(0, 0, 0, 2, 4), 1);
        rowIs(x, "up in itself", 0, 10, 11, 10, 11, 12, 13);
        x = counted();
        due.is("copy(0, 2, 0, 0, 4)", x.copy(0, 2, 0, 0, 4), 1);
        rowIs(x, "down in itself", 0, 12, 13, 14, 15, 14, 15);
        due.is("copy(0, 6, 1, 4, 0): none at the ends", x.copy(0, 6, 1, 4, 0), 1);
        due.is("copy(0, 0, 1, 0, 4)", x.copy(0, 0, 1, 0, 4), 1);
        rowIs(x, "all of it", 1, 12, 13, 14, 15);
    }

    private static void copyRefusals() {
        LuckyStolen x = counted();
        due.is("copy(-1, 0, 0, 0, 0)", x.copy(-1, 0, 0, 0, 0), -2);
        due.is("copy(0, 0, 4, 0, 0)", x.copy(0, 0, 4, 0, 0), -2);
        due.is("copy(3, 0, -1, 0, 0): BAD before NULL", x.copy(3, 0, -1, 0, 0), -2);
        due.is("copy(3, -1, 0, 0, 0)", x.copy(3, -1, 0, 0, 0), -11);
        due.is("copy(0, -1, 3, 0, 0)", x.copy(0, -1, 3, 0, 0), -11);
        due.is("copy(0, -1, 2, 0, 0): STORE before INDEX", x.copy(0, -1, 2, 0, 0), -14);
        due.is("count(8)", x.count(8), 4);
        due.is("copy(0, 0, 2, 0, 0): unlike, though of none", x.copy(0, 0, 2, 0, 0), -14);
        due.is("copy(0, -1, 1, 0, 1)", x.copy(0, -1, 1, 0, 1), -12);
        due.is("copy(0, 0, 1, -1, 1)", x.copy(0, 0, 1, -1, 1), -12);
        due.is("copy(0, 0, 1, 0, -1)", x.copy(0, 0, 1, 0, -1), -12);
        due.is("copy(0, 4, 1, 0, 3)", x.copy(0, 4, 1, 0, 3), -12);
        due.is("copy(0, 0, 1, 2, 3)", x.copy(0, 0, 1, 2, 3), -12);
        due.is("copy(0, 7, 1, 0, 0)", x.copy(0, 7, 1, 0, 0), -12);
        due.is("copy(0, 0, 1, 5, 0)", x.copy(0, 0, 1, 5, 0), -12);
        int much = Integer.MAX_VALUE;
        due.is("copy(0, 1, 1, 1, much)", x.copy(0, 1, 1, 1, much), -12);
        due.is("copy(0, much, 1, 0, 1)", x.copy(0, much, 1, 0, 1), -12);
        due.is("copy(0, much, 0, much, much)", x.copy(0, much, 0, much, much), -12);
        due.is("copy(0, 0, 1, 0, LEAST)", x.copy(0, 0, 1, 0, LEAST), -12);
        rowIs(x, "nothing came", 1, 0, 0, 0, 0);
        due.is("count(8)", x.count(8), 2);
    }

    private static void write() {
        LuckyStolen x = Due.with("0r1r");
        x.lasts(3);
        x.event(0, 2, 0, 5, 0);
        x.event(0, 3, 1, 5, 0);
        x.sheet(0, 1, 8);
        due.is("write(5, 0, 0)", x.write(5, 0, 0), 8);
        rowIs(x, "eggs", 0, 1, 1, 3, 5, 5, 3, 1, 1);
        due.is("write(5, 4, 0)", x.write(5, 4, 0), 8);
        rowIs(x, "eggs from 4 on", 0, 5, 3, 1, 1, 1, 1, 1, 1);
        x.lay(0, 1, 3, 77);
        due.is("write(5, 297, 0)", x.write(5, 297, 0), 3);
        rowIs(x, "three nights", 0, 1, 1, 1, 77);
        due.is("write(5, 299, 0)", x.write(5, 299, 0), 1);
        x.sheet(1, 0, 0);
        due.is("write(5, 0, 1) of no items", x.write(5, 0, 1), 0);
        due.is("write(-1, 0, 0)", x.write(-1, 0, 0), -2);
        due.is("write(8, 0, 0)", x.write(8, 0, 0), -2);
        due.is("write(0, -1, 0)", x.write(0, -1, 0), -2);
        due.is("write(0, 300, 0)", x.write(0, 300, 0), -2);
        due.is("write(0, 0, -1)", x.write(0, 0, -1), -2);
        due.is("write(0, 0, 4)", x.write(0, 0, 4), -2);
        due.is("write(8, 0, 2): BAD before NULL", x.write(8, 0, 2), -2);
        due.is("count(8) before any", x.count(8), 0);
        due.is("write(0, 0, 2)", x.write(0, 0, 2), -11);
        due.is("count(8)", x.count(8), 1);
    }
}
