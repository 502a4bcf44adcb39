/** Stones that bring luck only to whoever has stolen them. */
public final class LuckyStolen {
    public static final int NONE = -1, BAD = -2, NOT = -3, FULL = -4;

    private static final int MOST_STONES = 9;
    private static final int HOUSES = 8;
    private static final int ALL_HOUSES = 255;
    private static final int LAST_EVENT_NIGHT = 199;
    private static final int LAST_NIGHT = 299;
    private static final int SHEETS = 4;
    private static final int LEAST_INT = 1 << 31;
    private static final long LEAST_LONG = 1L << 63;

    private static final int NULL = 1, INDEX = 2, CAST = 3, STORE = 4, SIZE = 5;

    private final Text text = new Text();
    private final Tale tale = new Tale();
    private final Yard yard = new Yard(text, tale);
    private final Lets letting = new Lets(yard);
    private final Books books = new Books(yard);
    private final Guards guards = new Guards();
    private final Sheet[] sheets = new Sheet[SHEETS];
    private int finding = 0;

    public LuckyStolen() {
        for (int s = 0; s < SHEETS; s++) {
            sheets[s] = new Sheet();
        }
    }

    // ---- stones, events

    public int type(int b) {
        return within(b, 255) ? text.put(b) : BAD;
    }

    public int wipe() {
        return text.empty();
    }

    public int fault() {
        return text.faultPlace;
    }

    public int stone(int stone, int what) {
        if (!text.has(stone) || !within(what, 1)) {
            return BAD;
        }
        return what == 0 ? text.houseOf(stone) : text.isForged(stone) ? 1 : 0;
    }

    public int lasts(int v) {
        if (v < 1 || v > 99) {
            return BAD;
        }
        int before = yard.nightsOfLuck;
        yard.nightsOfLuck = v;
        return before;
    }

    public int event(int kind, int night, int stone, int house, int knowing) {
        if (!tale.mayBe(kind, night, stone, house, knowing)) {
            return BAD;
        }
        return tale.isFull() ? FULL : tale.put(kind, night, stone, house, knowing);
    }

    public int read(int s) {
        if (!isSheet(s)) {
            return BAD;
        }
        Sheet sheet = sheets[s];
        if (sheet.isLost()) {
            return found(NULL);
        }
        int[] row = sheet.items;
        int taken = 0;
        for (int i = 0; i + Tale.PARTS <= sheet.size; i += Tale.PARTS) {
            if (event(row[i], row[i + 1], row[i + 2], row[i + 3], row[i + 4]) < 0) {
                break;
            }
            taken++;
        }
        return taken;
    }

    public int undo() {
        return tale.size == 0 ? NOT : tale.takeLast();
    }

    public int judged() {
        yard.tellAll();
        return yard.firstAgainst;
    }

    // ---- luck

    public int at(int stone, int night, int what) {
        if (!text.has(stone) || !within(night, LAST_NIGHT) || !within(what, 2)) {
            return BAD;
        }
        yard.tellFromStart(night);
        if (what == 0) {
            return yard.owner[stone];
        }
        if (!yard.isLucky(stone, night)) {
            return 0;
        }
        return what == 1 ? 1 : yard.until[stone] - night;
    }

    public int luck(int house, int night, int what) {
        if (!isHouse(house) || !within(night, LAST_NIGHT) || !within(what, 1)) {
            return BAD;
        }
        yard.tellFromStart(night);
        return what == 0 ? yard.luckOf(house, night) : yard.eggsOf(house, night);
    }

    public int days(int house, int from, int to) {
        boolean goodHouse = house == NONE || isHouse(house);
        if (!goodHouse || !within(from, LAST_NIGHT) || !within(to, LAST_NIGHT) || to < from) {
            return BAD;
        }
        return yard.luckyDays(house == NONE ? ALL_HOUSES : 1 << house, from, to, NONE);
    }

    public int led(int house, int night, int i) {
        if (!isHouse(house) || !within(night, LAST_NIGHT) || i < 0) {
            return BAD;
        }
        yard.tellFromStart(night);
        return yard.theftBehind(house, night, i);
    }

    public int without(int event, int night) {
        if (event < 0 || event >= tale.size || !within(night, LAST_NIGHT)) {
            return -10000 + BAD;
        }
        int untold = yard.luckyDays(ALL_HOUSES, 0, night, event);
        return untold - yard.luckyDays(ALL_HOUSES, 0, night, NONE);
    }

    // ---- books

    public int book(int house, int night, int eggs) {
        if (!isHouse(house) || !within(night, LAST_NIGHT) || !within(eggs, 19)) {
            return BAD;
        }
        return books.isFull() ? FULL : books.put(house, night, eggs);
    }

    public int forget() {
        return books.empty();
    }

    public int fitting(int what) {
        if (!within(what, 3)) {
            return BAD;
        }
        books.tryAllSets();
        if (what == 0) {
            return books.sets;
        }
        if (books.sets == 0) {
            return NONE;
        }
        return what == 1 ? books.least : what == 2 ? books.inAll : books.inNone;
    }

    // ---- lets, robs

    public int lets(int night, int n, int what) {
        if (!within(night, LAST_EVENT_NIGHT) || night < tale.lastNight()
                || n < 1 || n > Lets.MOST_NIGHTS || !within(what, 1)) {
            return BAD;
        }
        yard.tellFromStart(night);
        int most = letting.mostNights(night, n);
        return what == 0 ? most : letting.picked;
    }

    public int robs(int w, int n, int what) {
        if (w < 1 || w > 30 || n < 1 || n > 200 || !within(what, 2)) {
            return BAD;
        }
        int nights = 0;
        for (int night = 0; night < n; night++) {
            boolean lucky = night % w < yard.nightsOfLuck;
            int who = lucky ? night / w % 2 : 2;
            if (who == what) {
                nights++;
            }
        }
        return nights;
    }

    // ---- guards

    public int guard(int house, int v) {
        if (!isHouse(house) || !within(v, Guards.ALWAYS)) {
            return BAD;
        }
        int before = guards.awake[house];
        guards.awake[house] = v;
        return before;
    }

    public long chance(int house, int n, int what) {
        if (!isHouse(house) || !within(n, Guards.MOST_NIGHTS) || !within(what, 1)) {
            return LEAST_LONG - BAD;
        }
        long all = Guards.power(Guards.ALWAYS, n);
        return Guards.lowest(all - Guards.power(guards.awake[house], n), all, what);
    }

    public long waits(int house, int what) {
        if (!isHouse(house) || !within(what, 1)) {
            return LEAST_LONG - BAD;
        }
        int asleep = Guards.ALWAYS - guards.awake[house];
        return asleep == 0 ? LEAST_LONG - NOT : Guards.lowest(Guards.ALWAYS, asleep, what);
    }

    public int careless(int n, int c) {
        if (n < 1 || n > Guards.MOST_NIGHTS || !within(c, 100)) {
            return BAD;
        }
        return Guards.leastFor(n, c);
    }

    public int thief(int house, int seed, int n) {
        if (!isHouse(house) || !within(n, 200)) {
            return BAD;
        }
        return guards.nightOfTheft(house, seed, n);
    }

    // ---- sheets

    public int sheet(int s, int form, int n) {
        if (!isSheet(s) || !Sheet.isForm(form) || n > Sheet.ROOM) {
            return BAD;
        }
        return n < 0 ? found(SIZE) : sheets[s].begin(form, n);
    }

    public int lose(int s) {
        if (!isSheet(s)) {
            return BAD;
        }
        return sheets[s].isLost() ? found(NULL) : sheets[s].end();
    }

    public int lay(int s, int form, int i, int v) {
        if (!isSheet(s) || !Sheet.isForm(form)) {
            return BAD;
        }
        int flaw = sheets[s].flawOf(form, i);
        if (flaw != 0) {
            return found(flaw);
        }
        sheets[s].put(i, v);
        return 1;
    }

    public int get(int s, int form, int i) {
        if (!isSheet(s) || !Sheet.isForm(form)) {
            return LEAST_INT;
        }
        int flaw = sheets[s].flawOf(form, i);
        if (flaw != 0) {
            finding = flaw;
            return LEAST_INT;
        }
        return sheets[s].items[i];
    }

    public int copy(int s, int i, int t, int j, int n) {
        if (!isSheet(s) || !isSheet(t)) {
            return BAD;
        }
        Sheet from = sheets[s];
        Sheet to = sheets[t];
        if (from.isLost() || to.isLost()) {
            return found(NULL);
        }
        if (from.form != to.form) {
            return found(STORE);
        }
        if (!from.hasSpan(i, n) || !to.hasSpan(j, n)) {
            return found(INDEX);
        }
        System.arraycopy(from.items, i, to.items, j, n);
        return 1;
    }

    public int write(int house, int night, int s) {
        if (!isHouse(house) || !within(night, LAST_NIGHT) || !isSheet(s)) {
            return BAD;
        }
        Sheet sheet = sheets[s];
        if (sheet.isLost()) {
            return found(NULL);
        }
        int nights = Math.min(sheet.size, LAST_NIGHT + 1 - night);
        yard.begin();
        for (int i = 0; i < nights; i++) {
            yard.tellTo(night + i, NONE);
            sheet.put(i, yard.eggsOf(house, night + i));
        }
        return nights;
    }

    public int count(int what) {
        switch (what) {
            case 0:
                return text.stones;
            case 1:
                return text.length;
            case 2:
                return tale.size;
            case 3:
                yard.tellAll();
                return yard.against;
            case 4:
                yard.tellAll();
                return yard.trueThefts;
            case 5:
                return yard.nightsOfLuck;
            case 6:
                return books.size;
            case 7:
                return text.stones - Integer.bitCount(text.realStones());
            case 8:
                return finding;
            default:
                return BAD;
        }
    }

    public long digest() {
        long h = 17;
        for (int what = 0; what <= 7; what++) {
            h = 31 * h + count(what);
        }
        h = 31 * h + fault();
        h = 31 * h + judged();
        for (int s = 0; s < text.stones; s++) {
            h = withStone(h, s);
        }
        for (int house = 0; house < HOUSES; house++) {
            h = withHouse(h, house);
        }
        h = 31 * h + without(0, 99);
        for (int what = 0; what <= 3; what++) {
            h = 31 * h + fitting(what);
        }
        h = 31 * h + lets(199, 1, 0);
        h = 31 * h + lets(199, 1, 1);
        for (int what = 0; what <= 2; what++) {
            h = 31 * h + robs(7, 50, what);
        }
        return 31 * h + careless(5, 40);
    }

    private long withStone(long before, int s) {
        long h = 31 * before + stone(s, 0);
        h = 31 * h + stone(s, 1);
        for (int night = 20; night <= 60; night += 40) {
            for (int what = 0; what <= 2; what++) {
                h = 31 * h + at(s, night, what);
            }
        }
        return h;
    }

    private long withHouse(long before, int house) {
        long h = 31 * before + luck(house, 20, 0);
        h = 31 * h + luck(house, 20, 1);
        h = 31 * h + days(house, 0, 99);
        h = 31 * h + led(house, 20, 0);
        h = 31 * h + chance(house, 5, 0);
        h = 31 * h + chance(house, 5, 1);
        h = 31 * h + waits(house, 0);
        h = 31 * h + waits(house, 1);
        return 31 * h + thief(house, 7, 9);
    }

    private int found(int number) {
        finding = number;
        return -10 - number;
    }

    private static boolean within(int v, int most) {
        return v >= 0 && v <= most;
    }

    private static boolean isHouse(int house) {
        return house >= 0 && house < HOUSES;
    }

    private static boolean isSheet(int s) {
        return s >= 0 && s < SHEETS;
    }

    /** The text of STONES, looked through anew after each change so that questions are cheap. */
    private static final class Text {
        private static final int ROOM = 30;

        final int[] bytes = new int[ROOM];
        int length = 0;
        int faultPlace = NONE;
        int stones = 0;

        int put(int b) {
            if (length >= ROOM) {
                return FULL;
            }
            bytes[length] = b;
            length++;
            lookThrough();
            return length;
        }

        int empty() {
            int before = length;
            length = 0;
            lookThrough();
            return before;
        }

        boolean has(int stone) {
            return stone >= 0 && stone < stones;
        }

        int houseOf(int stone) {
            return bytes[2 * stone] - '0';
        }

        boolean isForged(int stone) {
            return bytes[2 * stone + 1] == 'f';
        }

        int realStones() {
            int bits = 0;
            for (int s = 0; s < stones; s++) {
                if (!isForged(s)) {
                    bits |= 1 << s;
                }
            }
            return bits;
        }

        private void lookThrough() {
            faultPlace = firstFault();
            stones = faultPlace == NONE ? length / 2 : 0;
        }

        private int firstFault() {
            for (int i = 0; i < length; i++) {
                if (!fits(i)) {
                    return i;
                }
            }
            return length % 2 == 0 ? NONE : length;
        }

        private boolean fits(int place) {
            if (place >= 2 * MOST_STONES) {
                return false;
            }
            int b = bytes[place];
            return place % 2 == 0 ? b >= '0' && b <= '7' : b == 'r' || b == 'f';
        }
    }

    /** The EVENTS as they were told; whether they are by the LAW is the Yard's to say. */
    private static final class Tale {
        static final int PARTS = 5;
        static final int THEFT = 0, GIFT = 1, SALE = 2, LEFT = 3, FOUND = 4, THANKS = 5;
        private static final int ROOM = 40;

        final int[] kinds = new int[ROOM];
        final int[] nights = new int[ROOM];
        final int[] stones = new int[ROOM];
        final int[] houses = new int[ROOM];
        final int[] knowings = new int[ROOM];
        int size = 0;

        boolean mayBe(int kind, int night, int stone, int house, int knowing) {
            return within(kind, THANKS)
                    && within(night, LAST_EVENT_NIGHT) && night >= lastNight()
                    && within(stone, MOST_STONES - 1)
                    && isHouse(house)
                    && within(knowing, kind == THEFT ? 9 : 0);
        }

        boolean isFull() {
            return size >= ROOM;
        }

        int put(int kind, int night, int stone, int house, int knowing) {
            if (isFull()) {
                return FULL;
            }
            kinds[size] = kind;
            nights[size] = night;
            stones[size] = stone;
            houses[size] = house;
            knowings[size] = knowing;
            size++;
            return size;
        }

        int takeLast() {
            if (size > 0) {
                size--;
            }
            return size;
        }

        int lastNight() {
            return size == 0 ? 0 : nights[size - 1];
        }

        boolean isTrueTheft(int e) {
            return kinds[e] == THEFT && (knowings[e] == 0 || knowings[e] % 2 == 1);
        }
    }

    /** Where the STONES lie; the EVENTS are told again for each question, since text and EVENTS may change. */
    private static final class Yard {
        final Text text;
        final Tale tale;
        final int[] owner = new int[MOST_STONES];
        // The first NIGHT in which a STONE, were it real, is not lucky any more; thefts[] is the EVENT behind it.
        final int[] until = new int[MOST_STONES];
        final int[] thefts = new int[MOST_STONES];
        int real = 0;
        int nightsOfLuck = 30;
        int told = 0;
        int against = 0;
        int firstAgainst = NONE;
        int trueThefts = 0;

        Yard(Text text, Tale tale) {
            this.text = text;
            this.tale = tale;
        }

        void begin() {
            for (int s = 0; s < text.stones; s++) {
                owner[s] = text.houseOf(s);
                until[s] = 0;
                thefts[s] = NONE;
            }
            real = text.realStones();
            told = 0;
            against = 0;
            firstAgainst = NONE;
            trueThefts = 0;
        }

        void tellTo(int night, int untold) {
            for (; told < tale.size && tale.nights[told] <= night; told++) {
                if (told != untold) {
                    tell(told);
                }
            }
        }

        void tellFromStart(int night) {
            begin();
            tellTo(night, NONE);
        }

        void tellAll() {
            tellFromStart(LAST_EVENT_NIGHT);
        }

        private void tell(int e) {
            if (!isLawful(e)) {
                if (against == 0) {
                    firstAgainst = e;
                }
                against++;
                return;
            }
            int stone = tale.stones[e];
            until[stone] = 0;
            thefts[stone] = NONE;
            if (tale.kinds[e] != Tale.THANKS) {
                owner[stone] = tale.kinds[e] == Tale.LEFT ? NONE : tale.houses[e];
            }
            if (tale.isTrueTheft(e)) {
                until[stone] = tale.nights[e] + nightsOfLuck;
                thefts[stone] = e;
                trueThefts++;
            }
        }

        private boolean isLawful(int e) {
            int stone = tale.stones[e];
            if (stone >= text.stones) {
                return false;
            }
            switch (tale.kinds[e]) {
                case Tale.THEFT:
                case Tale.GIFT:
                case Tale.SALE:
                    return owner[stone] != NONE && owner[stone] != tale.houses[e];
                case Tale.FOUND:
                    return owner[stone] == NONE;
                default:
                    return owner[stone] == tale.houses[e];
            }
        }

        boolean isReal(int stone) {
            return (real >> stone & 1) == 1;
        }

        boolean isLucky(int stone, int night) {
            return until[stone] > night && isReal(stone);
        }

        int luckOf(int house, int night) {
            int lucky = 0;
            for (int s = 0; s < text.stones; s++) {
                if (owner[s] == house && isLucky(s, night)) {
                    lucky++;
                }
            }
            return lucky;
        }

        int eggsOf(int house, int night) {
            return 1 + 2 * luckOf(house, night);
        }

        int theftBehind(int house, int night, int i) {
            int before = 0;
            for (int s = 0; s < text.stones; s++) {
                if (owner[s] == house && isLucky(s, night)) {
                    if (before == i) {
                        return thefts[s];
                    }
                    before++;
                }
            }
            return NONE;
        }

        int luckyHouses(int night) {
            int bits = 0;
            for (int s = 0; s < text.stones; s++) {
                if (owner[s] != NONE && isLucky(s, night)) {
                    bits |= 1 << owner[s];
                }
            }
            return bits;
        }

        int luckyDays(int houses, int from, int to, int untold) {
            int sum = 0;
            begin();
            for (int night = from; night <= to; night++) {
                tellTo(night, untold);
                sum += Integer.bitCount(luckyHouses(night) & houses);
            }
            return sum;
        }

        int luckyIfReal(int house, int night) {
            int bits = 0;
            for (int s = 0; s < text.stones; s++) {
                if (owner[s] == house && until[s] > night) {
                    bits |= 1 << s;
                }
            }
            return bits;
        }
    }

    /** The best THEFTS to let be, tried on the Yard itself, which is put back behind each. */
    private static final class Lets {
        static final int MOST_NIGHTS = 3;

        final Yard yard;
        // The THEFT of the first NIGHT; inner searches write it too, the outermost one last.
        int picked = NONE;

        Lets(Yard yard) {
            this.yard = yard;
        }

        int mostNights(int night, int nights) {
            picked = NONE;
            if (nights < 1 || nights > MOST_NIGHTS) {
                return 0;
            }
            int ceiling = ceiling(night, nights);
            int most = nightsFrom(night, nights);
            int best = NONE;
            for (int s = 0; s < yard.text.stones && most < ceiling; s++) {
                if (!isWorthStealing(s)) {
                    continue;
                }
                for (int house = 0; house < HOUSES; house++) {
                    int got = house == yard.owner[s] ? 0 : nightsWith(s, house, night, nights);
                    if (got > most) {
                        most = got;
                        best = HOUSES * s + house;
                    }
                }
            }
            picked = best;
            return most;
        }

        // A forged STONE's THEFT does as much as none, and none is ahead of all.
        private boolean isWorthStealing(int stone) {
            return yard.owner[stone] != NONE && yard.isReal(stone);
        }

        // A THEFT adds at most one HOUSE to those that stay lucky anyway, and that for as long as luck lasts;
        // once so many NIGHTS are reached, no row behind can be better.
        private int ceiling(int night, int nights) {
            int stealable = 0;
            for (int s = 0; s < yard.text.stones; s++) {
                stealable += isWorthStealing(s) ? 1 : 0;
            }
            int sum = 0;
            for (int i = 0; i < nights; i++) {
                int lucky = Integer.bitCount(yard.luckyHouses(night + i));
                int more = Math.min(i + 1, yard.nightsOfLuck);
                sum += Math.min(Math.min(stealable, HOUSES), lucky + more);
            }
            return sum;
        }

        private int nightsWith(int stone, int house, int night, int nights) {
            int ownerBefore = yard.owner[stone];
            int untilBefore = yard.until[stone];
            yard.owner[stone] = house;
            yard.until[stone] = night + yard.nightsOfLuck;
            int sum = nightsFrom(night, nights);
            yard.owner[stone] = ownerBefore;
            yard.until[stone] = untilBefore;
            return sum;
        }

        private int nightsFrom(int night, int nights) {
            int tonight = Integer.bitCount(yard.luckyHouses(night));
            if (nights <= 1) {
                return tonight;
            }
            return tonight + (nights == 2 ? mostInLast(night + 1) : mostNights(night + 1, nights - 1));
        }

        // In the last NIGHT a THEFT can only add one HOUSE or none: no need to try them all.
        private int mostInLast(int night) {
            int lucky = 0;
            int twice = 0;
            for (int s = 0; s < yard.text.stones; s++) {
                if (yard.owner[s] != NONE && yard.isLucky(s, night)) {
                    int bit = 1 << yard.owner[s];
                    twice |= lucky & bit;
                    lucky |= bit;
                }
            }
            int most = Integer.bitCount(lucky);
            for (int s = 0; s < yard.text.stones; s++) {
                if (isWorthStealing(s)) {
                    int bit = 1 << yard.owner[s];
                    boolean spare = !yard.isLucky(s, night) || (twice & bit) != 0;
                    if (spare && (ALL_HOUSES & ~lucky & ~bit) != 0) {
                        return most + 1;
                    }
                }
            }
            return most;
        }
    }

    /** The hens' BOOKS, and which STONES can be forged by them. */
    private static final class Books {
        private static final int ROOM = 8;

        final Yard yard;
        final int[] houses = new int[ROOM];
        final int[] nights = new int[ROOM];
        final int[] eggs = new int[ROOM];
        final int[] luckyIfReal = new int[ROOM];
        int size = 0;
        int sets = 0;
        int least = NONE;
        int inAll = 0;
        int inNone = 0;

        Books(Yard yard) {
            this.yard = yard;
        }

        boolean isFull() {
            return size >= ROOM;
        }

        int put(int house, int night, int eggsThen) {
            if (isFull()) {
                return FULL;
            }
            houses[size] = house;
            nights[size] = night;
            eggs[size] = eggsThen;
            size++;
            return size;
        }

        int empty() {
            int before = size;
            size = 0;
            return before;
        }

        void tryAllSets() {
            for (int b = 0; b < size; b++) {
                yard.tellFromStart(nights[b]);
                luckyIfReal[b] = yard.luckyIfReal(houses[b], nights[b]);
            }
            int all = (1 << yard.text.stones) - 1;
            sets = 0;
            least = NONE;
            inAll = all;
            inNone = all;
            for (int forged = 0; forged <= all; forged++) {
                if (comesOut(forged)) {
                    least = sets == 0 ? forged : least;
                    sets++;
                    inAll &= forged;
                    inNone &= ~forged;
                }
            }
        }

        private boolean comesOut(int forged) {
            for (int b = 0; b < size; b++) {
                if (1 + 2 * Integer.bitCount(luckyIfReal[b] & ~forged) != eggs[b]) {
                    return false;
                }
            }
            return true;
        }
    }

    /** GUARDS, in sixteenths of their NIGHTS, and the chances of thieves. */
    private static final class Guards {
        static final int ALWAYS = 16;
        static final int MOST_NIGHTS = 12;

        final int[] awake = new int[HOUSES];

        Guards() {
            for (int house = 0; house < HOUSES; house++) {
                awake[house] = 8;
            }
        }

        static long power(long base, int n) {
            long product = 1;
            for (int i = 0; i < n; i++) {
                product *= base;
            }
            return product;
        }

        // One of the two is always a power of 2 here, so that halving alone leads to lowest terms.
        static long lowest(long above, long below, int what) {
            long a = above;
            long b = below;
            for (int i = 0; i < 64 && a % 2 == 0 && b % 2 == 0; i++) {
                a /= 2;
                b /= 2;
            }
            return what == 0 ? a : b;
        }

        static int leastFor(int n, int hundredths) {
            long all = power(ALWAYS, n);
            for (int v = 0; v < ALWAYS; v++) {
                if (100 * (all - power(v, n)) <= hundredths * all) {
                    return v;
                }
            }
            return ALWAYS;
        }

        int nightOfTheft(int house, int seed, int n) {
            int state = seed;
            for (int night = 0; night < n; night++) {
                state = 1103515245 * state + 12345;
                if ((state >>> 16) % ALWAYS >= awake[house]) {
                    return night;
                }
            }
            return NONE;
        }
    }

    /** A row of items of a FORM; its room is made once, whatever FORM and size it is given later. */
    private static final class Sheet {
        static final int ROOM = 60;
        private static final int LOST = -1, BYTES = 0, SHORTS = 1, INTS = 2;

        final int[] items = new int[ROOM];
        int form = LOST;
        int size = 0;

        static boolean isForm(int form) {
            return within(form, INTS);
        }

        boolean isLost() {
            return form == LOST;
        }

        int begin(int newForm, int n) {
            form = newForm;
            size = n;
            for (int i = 0; i < ROOM; i++) {
                items[i] = 0;
            }
            return n;
        }

        int end() {
            int before = size;
            form = LOST;
            size = 0;
            return before;
        }

        /** The FINDING that keeps item i from being used as of a FORM; 0 for none. */
        int flawOf(int asForm, int i) {
            if (isLost()) {
                return NULL;
            }
            if (asForm != form) {
                return CAST;
            }
            return i >= 0 && i < size ? 0 : INDEX;
        }

        boolean hasSpan(int from, int n) {
            return from >= 0 && n >= 0 && n <= size && from <= size - n;
        }

        void put(int i, int v) {
            items[i] = form == BYTES ? (byte) v : form == SHORTS ? (short) v : v;
        }
    }
}
