import java.math.BigInteger;
import java.util.ArrayList;
import java.util.Arrays;
import java.util.List;

/**
 * The document once more, as slow and plain as can be: it keeps no state but what was told, and tries
 * everything. Only random runs use it, to find where the program departs from it.
 */
final class Model {
    record Event(int kind, int night, int stone, int house, int knowing) {
        boolean isTrueTheft() {
            return kind == 0 && List.of(0, 1, 3, 5, 7, 9).contains(knowing);
        }
    }

    record Book(int house, int night, int eggs) {
    }

    /** Where one STONE is: its HOUSE (-1 the field), and the EVENT that it is lucky by (-1 none) with its NIGHT. */
    record Place(int house, int event, int night) {
    }

    static final class Sheet {
        final int form;
        final int[] items;

        Sheet(int form, int n) {
            this.form = form;
            this.items = new int[n];
        }
    }

    final StringBuilder text = new StringBuilder();
    final List<Event> events = new ArrayList<>();
    final List<Book> books = new ArrayList<>();
    final int[] guards = {8, 8, 8, 8, 8, 8, 8, 8};
    final Sheet[] sheets = new Sheet[4];
    int lasts = 30;
    int finding = 0;

    static boolean out(int v, int from, int to) {
        return v < from || v > to;
    }

    int stones() {
        return fault() == -1 ? text.length() / 2 : 0;
    }

    boolean real(int stone) {
        return text.charAt(2 * stone + 1) == 'r';
    }

    int find(int number) {
        finding = number;
        return -10 - number;
    }

    // ---- stones, events

    int type(int b) {
        if (out(b, 0, 255)) {
            return -2;
        }
        if (text.length() == 30) {
            return -4;
        }
        text.append((char) b);
        return text.length();
    }

    int wipe() {
        int n = text.length();
        text.setLength(0);
        return n;
    }

    int fault() {
        String s = text.toString();
        if (s.matches("([0-7][rf]){0,9}")) {
            return -1;
        }
        // The longest start of the text that could still go on is where the fault lies.
        for (int end = s.length(); end >= 0; end--) {
            if (s.substring(0, end).matches("([0-7][rf]){0,8}[0-7]|([0-7][rf]){0,9}")) {
                return end;
            }
        }
        return -99;
    }

    int stone(int stone, int what) {
        if (out(stone, 0, stones() - 1) || out(what, 0, 1)) {
            return -2;
        }
        return what == 0 ? Integer.parseInt(text.substring(2 * stone, 2 * stone + 1)) : real(stone) ? 0 : 1;
    }

    int lasts(int v) {
        if (out(v, 1, 99)) {
            return -2;
        }
        int before = lasts;
        lasts = v;
        return before;
    }

    int event(int kind, int night, int stone, int house, int knowing) {
        if (out(kind, 0, 5) || out(night, 0, 199) || out(stone, 0, 8) || out(house, 0, 7) || out(knowing, 0, 9)) {
            return -2;
        }
        if (kind != 0 && knowing != 0) {
            return -2;
        }
        if (!events.isEmpty() && night < events.get(events.size() - 1).night) {
            return -2;
        }
        if (events.size() == 40) {
            return -4;
        }
        events.add(new Event(kind, night, stone, house, knowing));
        return events.size();
    }

    int read(int s) {
        if (out(s, 0, 3)) {
            return -2;
        }
        if (sheets[s] == null) {
            return find(1);
        }
        int[] v = sheets[s].items;
        int n = 0;
        while (5 * n + 4 < v.length
                && event(v[5 * n], v[5 * n + 1], v[5 * n + 2], v[5 * n + 3], v[5 * n + 4]) > 0) {
            n++;
        }
        return n;
    }

    int undo() {
        if (events.isEmpty()) {
            return -3;
        }
        events.remove(events.size() - 1);
        return events.size();
    }

    /** The places of all STONES behind a NIGHT's EVENTS, one EVENT left out; against gets those against the LAW. */
    Place[] places(int night, int leftOut, List<Integer> against, List<Integer> trueThefts) {
        Place[] places = new Place[stones()];
        for (int s = 0; s < places.length; s++) {
            places[s] = new Place(stone(s, 0), -1, -1);
        }
        for (int e = 0; e < events.size(); e++) {
            Event v = events.get(e);
            if (v.night > night || e == leftOut) {
                continue;
            }
            boolean there = v.stone < places.length;
            int at = there ? places[v.stone].house : -9;
            boolean byLaw = there && switch (v.kind) {
                case 0, 1, 2 -> at >= 0 && at != v.house;
                case 3, 5 -> at == v.house;
                default -> at == -1;
            };
            if (!byLaw) {
                against.add(e);
            } else if (v.isTrueTheft()) {
                trueThefts.add(e);
                places[v.stone] = new Place(v.house, e, v.night);
            } else {
                places[v.stone] = new Place(v.kind == 3 ? -1 : v.house, -1, -1);
            }
        }
        return places;
    }

    Place[] places(int night, int leftOut) {
        return places(night, leftOut, new ArrayList<>(), new ArrayList<>());
    }

    int judged() {
        List<Integer> against = new ArrayList<>();
        places(999, -1, against, new ArrayList<>());
        return against.isEmpty() ? -1 : against.get(0);
    }

    // ---- luck

    /** How many more NIGHTS a place is lucky, were its STONE real. */
    int more(Place p, int night) {
        return p.house >= 0 && p.event >= 0 && night < p.night + lasts ? p.night + lasts - night : 0;
    }

    int at(int stone, int night, int what) {
        if (out(stone, 0, stones() - 1) || out(night, 0, 299) || out(what, 0, 2)) {
            return -2;
        }
        Place p = places(night, -1)[stone];
        int more = real(stone) ? more(p, night) : 0;
        return what == 0 ? p.house : what == 1 ? Math.min(more, 1) : more;
    }

    List<Integer> luckyOnes(int house, int night, int leftOut) {
        Place[] places = places(night, leftOut);
        List<Integer> lucky = new ArrayList<>();
        for (int s = 0; s < places.length; s++) {
            if (places[s].house == house && real(s) && more(places[s], night) > 0) {
                lucky.add(places[s].event);
            }
        }
        return lucky;
    }

    int luck(int house, int night, int what) {
        if (out(house, 0, 7) || out(night, 0, 299) || out(what, 0, 1)) {
            return -2;
        }
        int n = luckyOnes(house, night, -1).size();
        return what == 0 ? n : 1 + 2 * n;
    }

    int daysOf(int house, int from, int to, int leftOut) {
        int n = 0;
        for (int h = 0; h < 8; h++) {
            for (int night = from; night <= to; night++) {
                if ((house == -1 || house == h) && !luckyOnes(h, night, leftOut).isEmpty()) {
                    n++;
                }
            }
        }
        return n;
    }

    int days(int house, int from, int to) {
        if (out(house, -1, 7) || out(from, 0, 299) || out(to, from, 299)) {
            return -2;
        }
        return daysOf(house, from, to, -1);
    }

    int led(int house, int night, int i) {
        if (out(house, 0, 7) || out(night, 0, 299) || i < 0) {
            return -2;
        }
        List<Integer> lucky = luckyOnes(house, night, -1);
        return i < lucky.size() ? lucky.get(i) : -1;
    }

    int without(int event, int night) {
        if (out(event, 0, events.size() - 1) || out(night, 0, 299)) {
            return -10002;
        }
        return daysOf(-1, 0, night, event) - daysOf(-1, 0, night, -1);
    }

    // ---- books

    int book(int house, int night, int eggs) {
        if (out(house, 0, 7) || out(night, 0, 299) || out(eggs, 0, 19)) {
            return -2;
        }
        if (books.size() == 8) {
            return -4;
        }
        books.add(new Book(house, night, eggs));
        return books.size();
    }

    int forget() {
        int n = books.size();
        books.clear();
        return n;
    }

    /** As told, but the STONES of a set forged and all others real. */
    boolean allComeOut(int forged) {
        for (Book b : books) {
            Place[] places = places(b.night, -1);
            int eggs = 1;
            for (int s = 0; s < places.length; s++) {
                if ((forged >> s & 1) == 0 && places[s].house == b.house && more(places[s], b.night) > 0) {
                    eggs += 2;
                }
            }
            if (eggs != b.eggs) {
                return false;
            }
        }
        return true;
    }

    int fitting(int what) {
        if (out(what, 0, 3)) {
            return -2;
        }
        List<Integer> sets = new ArrayList<>();
        for (int forged = 0; forged < 1 << stones(); forged++) {
            if (allComeOut(forged)) {
                sets.add(forged);
            }
        }
        if (what == 0) {
            return sets.size();
        }
        if (sets.isEmpty()) {
            return -1;
        }
        if (what == 1) {
            return sets.get(0);
        }
        int bits = 0;
        for (int s = 0; s < stones(); s++) {
            int stone = s;
            boolean in = sets.stream().allMatch(set -> (set >> stone & 1) == (what == 2 ? 1 : 0));
            bits |= in ? 1 << s : 0;
        }
        return bits;
    }

    // ---- lets, robs

    int lets(int night, int n, int what) {
        int last = events.isEmpty() ? 0 : events.get(events.size() - 1).night;
        if (out(night, last, 199) || out(n, 1, 3) || out(what, 0, 1)) {
            return -2;
        }
        int[] best = {-1, -1};
        rows(places(night, -1), night, n, 0, -2, best);
        return best[what];
    }

    /** All rows in their order, none ahead of all; a later one must be better to be taken. */
    private void rows(Place[] places, int night, int left, int sum, int first, int[] best) {
        if (left == 0) {
            if (sum > best[0]) {
                best[0] = sum;
                best[1] = first;
            }
            return;
        }
        for (int theft = -1; theft < 8 * places.length; theft++) {
            Place before = theft < 0 ? null : places[theft / 8];
            if (before != null && (before.house < 0 || before.house == theft % 8)) {
                continue;
            }
            if (before != null) {
                places[theft / 8] = new Place(theft % 8, 1000, night);
            }
            rows(places, night + 1, left - 1, sum + housesWithLuck(places, night), first == -2 ? theft : first, best);
            if (before != null) {
                places[theft / 8] = before;
            }
        }
    }

    private int housesWithLuck(Place[] places, int night) {
        boolean[] lucky = new boolean[8];
        for (int s = 0; s < places.length; s++) {
            if (real(s) && more(places[s], night) > 0) {
                lucky[places[s].house] = true;
            }
        }
        int n = 0;
        for (boolean b : lucky) {
            n += b ? 1 : 0;
        }
        return n;
    }

    int robs(int w, int n, int what) {
        if (out(w, 1, 30) || out(n, 1, 200) || out(what, 0, 2)) {
            return -2;
        }
        int[] nights = new int[3];
        int holder = 1;
        int stolen = -1;
        for (int night = 0; night < n; night++) {
            if (stolen == -1 || night == stolen + w) {
                holder = 1 - holder;
                stolen = night;
            }
            nights[night < stolen + lasts ? holder : 2]++;
        }
        return nights[what];
    }

    // ---- guards

    int guard(int house, int v) {
        if (out(house, 0, 7) || out(v, 0, 16)) {
            return -2;
        }
        int before = guards[house];
        guards[house] = v;
        return before;
    }

    private static long lowest(BigInteger above, BigInteger below, int what) {
        BigInteger by = above.gcd(below);
        return (what == 0 ? above : below).divide(by).longValueExact();
    }

    private static BigInteger power(int base, int n) {
        return BigInteger.valueOf(base).pow(n);
    }

    long chance(int house, int n, int what) {
        if (out(house, 0, 7) || out(n, 0, 12) || out(what, 0, 1)) {
            return Long.MIN_VALUE + 2;
        }
        return lowest(power(16, n).subtract(power(guards[house], n)), power(16, n), what);
    }

    long waits(int house, int what) {
        if (out(house, 0, 7) || out(what, 0, 1)) {
            return Long.MIN_VALUE + 2;
        }
        if (guards[house] == 16) {
            return Long.MIN_VALUE + 3;
        }
        return lowest(BigInteger.valueOf(16), BigInteger.valueOf(16 - guards[house]), what);
    }

    int careless(int n, int c) {
        if (out(n, 1, 12) || out(c, 0, 100)) {
            return -2;
        }
        int v = 0;
        while (power(16, n).subtract(power(v, n)).multiply(BigInteger.valueOf(100))
                .compareTo(power(16, n).multiply(BigInteger.valueOf(c))) > 0) {
            v++;
        }
        return v;
    }

    int thief(int house, int seed, int n) {
        if (out(house, 0, 7) || out(n, 0, 200)) {
            return -2;
        }
        BigInteger state = BigInteger.valueOf(seed);
        for (int night = 0; night < n; night++) {
            state = state.multiply(BigInteger.valueOf(1103515245)).add(BigInteger.valueOf(12345)).mod(power(2, 32));
            if (state.shiftRight(16).intValueExact() % 16 >= guards[house]) {
                return night;
            }
        }
        return -1;
    }

    // ---- sheets

    int sheet(int s, int form, int n) {
        if (out(s, 0, 3) || out(form, 0, 2) || n > 60) {
            return -2;
        }
        if (n < 0) {
            return find(5);
        }
        sheets[s] = new Sheet(form, n);
        return n;
    }

    int lose(int s) {
        if (out(s, 0, 3)) {
            return -2;
        }
        if (sheets[s] == null) {
            return find(1);
        }
        int n = sheets[s].items.length;
        sheets[s] = null;
        return n;
    }

    private void put(Sheet sheet, int i, int v) {
        int bits = new int[] {24, 16, 0}[sheet.form];
        sheet.items[i] = v << bits >> bits;
    }

    int lay(int s, int form, int i, int v) {
        if (out(s, 0, 3) || out(form, 0, 2)) {
            return -2;
        }
        if (sheets[s] == null) {
            return find(1);
        }
        if (sheets[s].form != form) {
            return find(3);
        }
        if (out(i, 0, sheets[s].items.length - 1)) {
            return find(2);
        }
        put(sheets[s], i, v);
        return 1;
    }

    int get(int s, int form, int i) {
        if (out(s, 0, 3) || out(form, 0, 2)) {
            return Integer.MIN_VALUE;
        }
        int number = sheets[s] == null ? 1 : sheets[s].form != form ? 3
                : out(i, 0, sheets[s].items.length - 1) ? 2 : 0;
        if (number != 0) {
            finding = number;
            return Integer.MIN_VALUE;
        }
        return sheets[s].items[i];
    }

    int copy(int s, int i, int t, int j, int n) {
        if (out(s, 0, 3) || out(t, 0, 3)) {
            return -2;
        }
        if (sheets[s] == null || sheets[t] == null) {
            return find(1);
        }
        if (sheets[s].form != sheets[t].form) {
            return find(4);
        }
        if (i < 0 || j < 0 || n < 0 || (long) i + n > sheets[s].items.length
                || (long) j + n > sheets[t].items.length) {
            return find(2);
        }
        int[] asTheyWere = Arrays.copyOf(sheets[s].items, sheets[s].items.length);
        for (int k = 0; k < n; k++) {
            sheets[t].items[j + k] = asTheyWere[i + k];
        }
        return 1;
    }

    int write(int house, int night, int s) {
        if (out(house, 0, 7) || out(night, 0, 299) || out(s, 0, 3)) {
            return -2;
        }
        if (sheets[s] == null) {
            return find(1);
        }
        int n = 0;
        while (n < sheets[s].items.length && night + n <= 299) {
            put(sheets[s], n, luck(house, night + n, 1));
            n++;
        }
        return n;
    }

    int count(int what) {
        List<Integer> against = new ArrayList<>();
        List<Integer> trueThefts = new ArrayList<>();
        places(999, -1, against, trueThefts);
        int forged = 0;
        for (int s = 0; s < stones(); s++) {
            forged += real(s) ? 0 : 1;
        }
        int[] all = {stones(), text.length(), events.size(), against.size(), trueThefts.size(), lasts,
            books.size(), forged, finding};
        return out(what, 0, 8) ? -2 : all[what];
    }

    long digest() {
        List<Long> all = new ArrayList<>();
        for (int what = 0; what <= 7; what++) {
            all.add((long) count(what));
        }
        all.add((long) fault());
        all.add((long) judged());
        for (int s = 0; s < stones(); s++) {
            all.add((long) stone(s, 0));
            all.add((long) stone(s, 1));
            for (int what = 0; what < 6; what++) {
                all.add((long) at(s, what < 3 ? 20 : 60, what % 3));
            }
        }
        for (int h = 0; h < 8; h++) {
            all.addAll(List.of((long) luck(h, 20, 0), (long) luck(h, 20, 1), (long) days(h, 0, 99),
                    (long) led(h, 20, 0), chance(h, 5, 0), chance(h, 5, 1), waits(h, 0), waits(h, 1),
                    (long) thief(h, 7, 9)));
        }
        all.add((long) without(0, 99));
        for (int what = 0; what <= 3; what++) {
            all.add((long) fitting(what));
        }
        all.addAll(List.of((long) lets(199, 1, 0), (long) lets(199, 1, 1), (long) robs(7, 50, 0),
                (long) robs(7, 50, 1), (long) robs(7, 50, 2), (long) careless(5, 40)));
        long h = 17;
        for (long v : all) {
            h = 31 * h + v;
        }
        return h;
    }
}
