/** Promises 21 to 25: guard, chance, waits, careless, thief. */
public final class GuardsTest {
    private static final Due due = new Due("GuardsTest");
    private static final long LONG_BAD = Long.MIN_VALUE + 2;
    private static final long LONG_NOT = Long.MIN_VALUE + 3;

    public static void main(String[] args) {
        guard();
        chance();
        waits();
        careless();
        thief();
        due.end();
    }

    private static void guard() {
        LuckyStolen x = new LuckyStolen();
        for (int house = 0; house < 8; house++) {
            due.is("guard of " + house, x.guard(house, house), 8);
        }
        for (int house = 0; house < 8; house++) {
            due.is("guard of " + house + " again", x.guard(house, 16 - house), house);
        }
        due.is("guard(0, 0)", x.guard(0, 0), 16);
        due.is("guard(-1, 0)", x.guard(-1, 0), -2);
        due.is("guard(8, 0)", x.guard(8, 0), -2);
        due.is("guard(0, -1)", x.guard(0, -1), -2);
        due.is("guard(0, 17)", x.guard(0, 17), -2);
        due.is("guard(0, 8)", x.guard(0, 8), 0);
    }

    private static void chanceIs(LuckyStolen x, int v, int n, long above, long below) {
        x.guard(3, v);
        due.is("guard " + v + ": chance(3, " + n + ", 0)", x.chance(3, n, 0), above);
        due.is("guard " + v + ": chance(3, " + n + ", 1)", x.chance(3, n, 1), below);
    }

    private static void chance() {
        LuckyStolen x = new LuckyStolen();
        chanceIs(x, 8, 0, 0, 1);
        chanceIs(x, 8, 1, 1, 2);
        chanceIs(x, 8, 3, 7, 8);
        chanceIs(x, 12, 2, 7, 16);
        chanceIs(x, 0, 0, 0, 1);
        chanceIs(x, 0, 12, 1, 1);
        chanceIs(x, 16, 12, 0, 1);
        chanceIs(x, 15, 1, 1, 16);
        chanceIs(x, 15, 12, 281474976710656L - 129746337890625L, 281474976710656L);
        chanceIs(x, 6, 12, 68719476736L - 531441L, 68719476736L);
        due.is("chance(0, 1, 1) of another house", x.chance(0, 1, 1), 2);
        due.is("chance(-1, 0, 0)", x.chance(-1, 0, 0), LONG_BAD);
        due.is("chance(8, 0, 0)", x.chance(8, 0, 0), LONG_BAD);
        due.is("chance(0, -1, 0)", x.chance(0, -1, 0), LONG_BAD);
        due.is("chance(0, 13, 0)", x.chance(0, 13, 0), LONG_BAD);
        due.is("chance(0, 0, -1)", x.chance(0, 0, -1), LONG_BAD);
        due.is("chance(0, 0, 2)", x.chance(0, 0, 2), LONG_BAD);
    }

    private static void waitsIs(LuckyStolen x, int v, long above, long below) {
        x.guard(7, v);
        due.is("guard " + v + ": waits(7, 0)", x.waits(7, 0), above);
        due.is("guard " + v + ": waits(7, 1)", x.waits(7, 1), below);
    }

    private static void waits() {
        LuckyStolen x = new LuckyStolen();
        waitsIs(x, 0, 1, 1);
        waitsIs(x, 1, 16, 15);
        waitsIs(x, 2, 8, 7);
        waitsIs(x, 4, 4, 3);
        waitsIs(x, 8, 2, 1);
        waitsIs(x, 15, 16, 1);
        waitsIs(x, 16, LONG_NOT, LONG_NOT);
        due.is("waits(7, 2) with guard 16", x.waits(7, 2), LONG_BAD);
        due.is("waits(-1, 0)", x.waits(-1, 0), LONG_BAD);
        due.is("waits(8, 0)", x.waits(8, 0), LONG_BAD);
        due.is("waits(0, -1)", x.waits(0, -1), LONG_BAD);
    }

    private static void careless() {
        LuckyStolen x = new LuckyStolen();
        due.is("careless(1, 0)", x.careless(1, 0), 16);
        due.is("careless(1, 6)", x.careless(1, 6), 16);
        due.is("careless(1, 7)", x.careless(1, 7), 15);
        due.is("careless(1, 25): just so many", x.careless(1, 25), 12);
        due.is("careless(1, 24)", x.careless(1, 24), 13);
        due.is("careless(2, 75): just so many", x.careless(2, 75), 8);
        due.is("careless(2, 74)", x.careless(2, 74), 9);
        due.is("careless(5, 40)", x.careless(5, 40), 15);
        due.is("careless(12, 99)", x.careless(12, 99), 11);
        due.is("careless(12, 100)", x.careless(12, 100), 0);
        due.is("careless(0, 0)", x.careless(0, 0), -2);
        due.is("careless(13, 0)", x.careless(13, 0), -2);
        due.is("careless(1, -1)", x.careless(1, -1), -2);
        due.is("careless(1, 101)", x.careless(1, 101), -2);
    }

    private static void thief() {
        LuckyStolen x = new LuckyStolen();
        // SEED 1 becomes 1103527590 (16838: LOT 6), then -1770082073 (38526: LOT 14).
        for (int v = 0; v <= 6; v++) {
            x.guard(2, v);
            due.is("guard " + v + ": thief(2, 1, 1)", x.thief(2, 1, 1), 0);
        }
        x.guard(2, 7);
        due.is("guard 7: thief(2, 1, 1)", x.thief(2, 1, 1), -1);
        due.is("guard 7: thief(2, 1, 2)", x.thief(2, 1, 2), 1);
        x.guard(2, 0);
        due.is("thief(2, 1, 0)", x.thief(2, 1, 0), -1);
        x.guard(2, 16);
        due.is("guard 16: thief(2, 1, 200)", x.thief(2, 1, 200), -1);
        for (int v = 1; v <= 15; v++) {
            x.guard(2, v);
            for (int seed = -5; seed <= 5; seed++) {
                due.is("guard " + v + ": thief(2, " + seed + ", 200)", x.thief(2, seed, 200), firstLot(seed, v));
            }
        }
        due.is("thief(-1, 0, 0)", x.thief(-1, 0, 0), -2);
        due.is("thief(8, 0, 0)", x.thief(8, 0, 0), -2);
        due.is("thief(0, 0, -1)", x.thief(0, 0, -1), -2);
        due.is("thief(0, 0, 201)", x.thief(0, 0, 201), -2);
    }

    private static int firstLot(int seed, int v) {
        long state = seed;
        for (int night = 0; night < 200; night++) {
            state = (state * 1103515245L + 12345L) & 0xffffffffL;
            if (state / 65536 % 16 >= v) {
                return night;
            }
        }
        return -1;
    }
}
