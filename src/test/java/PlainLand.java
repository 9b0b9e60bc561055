import java.math.BigInteger;
import java.util.ArrayList;
import java.util.Arrays;
import java.util.List;
import java.util.function.ToIntFunction;
import java.util.regex.Matcher;
import java.util.regex.Pattern;

/**
 * The document once more, written from its words alone and without care for time or room, so that
 * the two can be compared. A finding is thrown here; a call of ask() answers it.
 */
final class PlainLand {
    static final class Found extends RuntimeException {
        private static final long serialVersionUID = 1L;
        final int finding;

        Found(int finding) {
            super(null, null, false, false);
            this.finding = finding;
        }
    }

    static final class Home {
        int cell;
        int floor;
        boolean west = true;
        boolean east = true;

        Home(int cell, int floor) {
            this.cell = cell;
            this.floor = floor;
        }

        Home copy() {
            Home h = new Home(cell, floor);
            h.west = west;
            h.east = east;
            return h;
        }

        int open() {
            return (west ? 1 : 0) + (east ? 2 : 0);
        }

        void open(int set) {
            west = set % 2 == 1;
            east = set / 2 == 1;
        }
    }

    static final class World {
        String[] things = new String[24];
        int[] height = new int[24];
        int[] age = new int[24];
        Integer[] spots = new Integer[10];
        List<Home> homes = new ArrayList<>();
        int haze = 23;
        int rate = 10;
        int year = 0;
        int z = 1;

        World() {
            Arrays.fill(things, "land");
        }

        World copy() {
            World w = new World();
            w.things = things.clone();
            w.height = height.clone();
            w.age = age.clone();
            w.spots = spots.clone();
            for (Home h : homes) {
                w.homes.add(h.copy());
            }
            w.haze = haze;
            w.rate = rate;
            w.year = year;
            w.z = z;
            return w;
        }

        World with(int cell, int kind) {
            World w = copy();
            w.things[cell] = KINDS.get(kind);
            w.age[cell] = 0;
            return w;
        }

        World ahead(int n) {
            World w = copy();
            for (int i = 0; i < n; i++) {
                w.oneYear();
            }
            return w;
        }

        void oneYear() {
            for (int c = 0; c < 24; c++) {
                if (age[c] < 99) {
                    age[c]++;
                }
            }
            year++;
        }

        int top(int c) {
            switch (things[c]) {
                case "sea": return 0;
                case "roof": return height[c] + 5;
                case "wood": return height[c] + (age[c] > 30 ? 30 : age[c]);
                case "elm": return height[c] + (age[c] > 30 ? 30 : age[c]) + (age[c] - age[c] % 2) / 2;
                default: return height[c];
            }
        }

        int worth(int c) {
            switch (things[c]) {
                case "land": case "wood": return 1;
                case "water": return 5;
                case "field": case "elm": return 3;
                case "sea": return 20;
                default: return 0;
            }
        }

        int eye(int h) {
            return top(homes.get(h).cell) + homes.get(h).floor;
        }

        /** The line to a cell, by a common multiple of 1 to 23 so that nothing is cut. */
        long line(int h, int c) {
            long whole = 5354228880L;
            return (top(c) - eye(h)) * (whole / Math.abs(c - homes.get(h).cell));
        }

        List<Integer> between(int h, int c) {
            List<Integer> cells = new ArrayList<>();
            int home = homes.get(h).cell;
            for (int b = 0; b < 24; b++) {
                if (home < b && b < c || c < b && b < home) {
                    cells.add(b);
                }
            }
            if (c < home) {
                java.util.Collections.reverse(cells);
            }
            return cells;
        }

        boolean faces(int h, int c) {
            Home home = homes.get(h);
            return c != home.cell && (c < home.cell ? home.west : home.east) && Math.abs(c - home.cell) <= haze;
        }

        boolean inSight(int h, int c) {
            if (c == homes.get(h).cell) {
                return true;
            }
            if (!faces(h, c)) {
                return false;
            }
            for (int b : between(h, c)) {
                if (line(h, b) >= line(h, c)) {
                    return false;
                }
            }
            return true;
        }

        int sight(int h) {
            int set = 0;
            for (int c = 0; c < 24; c++) {
                set += inSight(h, c) ? 1 << c : 0;
            }
            return set;
        }

        int tax(int h) {
            int sum = 0;
            for (int c = 0; c < 24; c++) {
                if (c != homes.get(h).cell && inSight(h, c)) {
                    sum += worth(c);
                }
            }
            return sum * rate / 10;
        }

        int allTax() {
            int sum = 0;
            for (int h = 0; h < homes.size(); h++) {
                sum += tax(h);
            }
            return sum;
        }

        int anySight() {
            int set = 0;
            for (int h = 0; h < homes.size(); h++) {
                set |= sight(h);
            }
            return set;
        }

        int draw() {
            z = z * 1103515245 + 12345;
            return z >>> 8;
        }
    }

    static final List<String> KINDS = List.of("land", "water", "field", "sea", "roof", "wood", "elm");

    World now = new World();
    World kept = null;
    StringBuilder tape = new StringBuilder();
    int[] bits = new int[4];
    int[][] sheets = new int[4][];

    // ---- findings

    static void beyond(boolean is) {
        find(is, Due.BEYOND);
    }

    static void find(boolean is, int finding) {
        if (is) {
            throw new Found(finding);
        }
    }

    static boolean off(int v, int low, int high) {
        return v < low || v > high;
    }

    void needHouse(int h) {
        beyond(off(h, 0, now.homes.size() - 1));
    }

    static void needCell(int c) {
        beyond(off(c, 0, 23));
    }

    static void needKind(int k) {
        beyond(off(k, 0, 6));
    }

    void needTime(int n) {
        find(now.year + n > 999, Due.STATE);
    }

    /** The first number from low to high of which the value is least. */
    static int argLeast(int low, int high, ToIntFunction<Integer> value) {
        int best = low;
        for (int i = low; i <= high; i++) {
            if (value.applyAsInt(i) < value.applyAsInt(best)) {
                best = i;
            }
        }
        return best;
    }

    // ---- cells, houses

    int cell(int cell, int what, int v) {
        needCell(cell);
        beyond(off(what, 0, 1));
        beyond(off(v, 0, 99));
        int[] row = what == 0 ? now.height : now.age;
        int was = row[cell];
        row[cell] = v;
        return was;
    }

    int set(int cell, int kind) {
        needCell(cell);
        needKind(kind);
        int was = KINDS.indexOf(now.things[cell]);
        now = now.with(cell, kind);
        return was;
    }

    int cellOf(int cell, int what) {
        needCell(cell);
        beyond(off(what, 0, 4));
        int[] all = {KINDS.indexOf(now.things[cell]), now.height[cell], now.age[cell], now.top(cell), now.worth(cell)};
        return all[what];
    }

    int house(int cell, int floor) {
        needCell(cell);
        beyond(off(floor, 1, 40));
        find(now.homes.size() == 8, Due.FULL);
        now.homes.add(new Home(cell, floor));
        return now.homes.size() - 1;
    }

    int houseOf(int house, int what) {
        needHouse(house);
        beyond(off(what, 0, 3));
        Home h = now.homes.get(house);
        return new int[] {h.cell, h.floor, now.eye(house), h.open()}[what];
    }

    int floor(int house, int v) {
        needHouse(house);
        beyond(off(v, 1, 40));
        int was = now.homes.get(house).floor;
        now.homes.get(house).floor = v;
        return was;
    }

    int windows(int house, int open) {
        needHouse(house);
        beyond(off(open, 0, 3));
        int was = now.homes.get(house).open();
        now.homes.get(house).open(open);
        return was;
    }

    int law(int what, int v) {
        beyond(off(what, 0, 1));
        beyond(what == 0 ? off(v, 1, 23) : off(v, 0, 99));
        int was = what == 0 ? now.haze : now.rate;
        if (what == 0) {
            now.haze = v;
        } else {
            now.rate = v;
        }
        return was;
    }

    int dig(int from, int to, int n) {
        needCell(from);
        needCell(to);
        beyond(to < from);
        beyond(off(n, 1, 99));
        int flat = 0;
        for (int c = from; c <= to; c++) {
            now.height[c] = now.height[c] <= n ? 0 : now.height[c] - n;
            flat += now.height[c] == 0 ? 1 : 0;
        }
        return flat;
    }

    int drain(int n) {
        beyond(off(n, 0, 20));
        int cells = 0;
        for (int c = 0; c < 24; c++) {
            if (now.things[c].equals("water")) {
                cells++;
                now.things[c] = "field";
                now.height[c] = now.height[c] <= n ? 0 : now.height[c] - n;
            }
        }
        return cells;
    }

    // ---- sights

    int sight(int house) {
        needHouse(house);
        return now.sight(house);
    }

    int sees(int house, int cell) {
        needHouse(house);
        needCell(cell);
        return now.inSight(house, cell) ? 1 : 0;
    }

    int seenBy(int cell) {
        needCell(cell);
        int set = 0;
        for (int h = 0; h < now.homes.size(); h++) {
            set += now.inSight(h, cell) ? 1 << h : 0;
        }
        return set;
    }

    int neighbours(int house) {
        needHouse(house);
        int set = 0;
        for (int h = 0; h < now.homes.size(); h++) {
            set += h != house && now.inSight(house, now.homes.get(h).cell) ? 1 << h : 0;
        }
        return set;
    }

    int hidden(int house, int cell) {
        needHouse(house);
        needCell(cell);
        find(!now.faces(house, cell), Due.STATE);
        find(now.inSight(house, cell), Due.NONE);
        for (int b : now.between(house, cell)) {
            if (now.line(house, b) >= now.line(house, cell)) {
                return b;
            }
        }
        throw new IllegalStateException("not seen, but hidden by none");
    }

    // ---- taxes

    int tax(int house) {
        needHouse(house);
        return now.tax(house);
    }

    int all() {
        return now.allTax();
    }

    private World onFloor(int house, int floor) {
        World w = now.copy();
        w.homes.get(house).floor = floor;
        return w;
    }

    int cheapest(int house) {
        needHouse(house);
        return argLeast(1, 40, f -> onFloor(house, f).tax(house));
    }

    int widest(int house) {
        needHouse(house);
        return argLeast(1, 40, f -> -Integer.bitCount(onFloor(house, f).sight(house)));
    }

    int wall(int house, int cell) {
        needHouse(house);
        needCell(cell);
        World w = now.copy();
        int best = argLeast(0, 3, open -> {
            w.homes.get(house).open(open);
            return w.inSight(house, cell) ? w.tax(house) : Integer.MAX_VALUE;
        });
        w.homes.get(house).open(best);
        find(!w.inSight(house, cell), Due.NONE);
        return best;
    }

    int rateFor(int v) {
        beyond(off(v, 0, 99999));
        for (int r = 0; r < 100; r++) {
            World w = now.copy();
            w.rate = r;
            if (w.allTax() >= v) {
                return r;
            }
        }
        throw new Found(Due.NONE);
    }

    // ---- for whose good

    int shade(int house, int kind, int n) {
        needHouse(house);
        needKind(kind);
        beyond(off(n, 0, 60));
        needTime(n);
        return argLeast(0, 23, c -> now.with(c, kind).ahead(n).tax(house));
    }

    int gains(int cell, int kind, int n) {
        needCell(cell);
        needKind(kind);
        beyond(off(n, 0, 60));
        needTime(n);
        int set = 0;
        for (int h = 0; h < now.homes.size(); h++) {
            set += now.with(cell, kind).ahead(n).tax(h) < now.ahead(n).tax(h) ? 1 << h : 0;
        }
        return set;
    }

    int plant(int kind) {
        needKind(kind);
        return argLeast(0, 23, c -> -now.with(c, kind).allTax());
    }

    int two(int kind) {
        needKind(kind);
        int best = -1;
        int least = Integer.MAX_VALUE;
        for (int a = 0; a < 24; a++) {
            for (int b = a + 1; b < 24; b++) {
                int t = now.with(a, kind).with(b, kind).allTax();
                if (t < least) {
                    least = t;
                    best = 100 * a + b;
                }
            }
        }
        return best;
    }

    int restless() {
        int n = 0;
        for (int h = 0; h < now.homes.size(); h++) {
            boolean less = false;
            for (int f = 1; f <= 40; f++) {
                less |= onFloor(h, f).tax(h) < now.tax(h);
            }
            n += less ? 1 : 0;
        }
        return n;
    }

    // ---- assessors, old returns

    int walk() {
        int n = now.homes.size();
        for (int size = 0; size <= n; size++) {
            for (int set = 0; set < 1 << n; set++) {
                int seen = 0;
                for (int h = 0; h < n; h++) {
                    seen |= (set & 1 << h) != 0 ? now.sight(h) : 0;
                }
                if (Integer.bitCount(set) == size && seen == now.anySight()) {
                    return set;
                }
            }
        }
        throw new IllegalStateException("not even all together");
    }

    int blind() {
        int set = 0;
        for (int c = 0; c < 24; c++) {
            set += seenBy(c) == 0 ? 1 << c : 0;
        }
        return set;
    }

    private List<Integer> fitting(int cell, int house, int v) {
        needCell(cell);
        needHouse(house);
        beyond(off(v, 0, 99999));
        List<Integer> fit = new ArrayList<>();
        for (int high = 0; high < 100; high++) {
            World w = now.copy();
            w.height[cell] = high;
            if (w.tax(house) == v) {
                fit.add(high);
            }
        }
        return fit;
    }

    int heights(int cell, int house, int v) {
        return fitting(cell, house, v).size();
    }

    int height(int cell, int house, int v, int what) {
        List<Integer> fit = fitting(cell, house, v);
        beyond(off(what, 0, 1));
        find(fit.isEmpty(), Due.NONE);
        return fit.get(what == 0 ? 0 : fit.size() - 1);
    }

    int which(int cell, int v) {
        needCell(cell);
        beyond(off(v, 0, 99999));
        for (int h = 0; h < now.homes.size(); h++) {
            World w = now.copy();
            w.homes.get(h).cell = cell;
            if (w.tax(h) == v) {
                return h;
            }
        }
        throw new Found(Due.NONE);
    }

    // ---- years

    int years(int n) {
        beyond(off(n, 1, 60));
        needTime(n);
        now = now.ahead(n);
        return now.year;
    }

    int ahead(int n, int what) {
        beyond(off(n, 0, 60));
        beyond(off(what, 0, now.homes.size()));
        needTime(n);
        return what == 0 ? now.ahead(n).allTax() : now.ahead(n).tax(what - 1);
    }

    int lost(int house, int cell) {
        needHouse(house);
        needCell(cell);
        find(now.year > 939, Due.STATE);
        for (int n = 0; n <= 60; n++) {
            if (!now.ahead(n).inSight(house, cell)) {
                return n;
            }
        }
        throw new Found(Due.NONE);
    }

    int when(int house) {
        needHouse(house);
        find(now.year > 939, Due.STATE);
        return argLeast(0, 60, n -> now.ahead(n).tax(house));
    }

    int quake(int n) {
        beyond(off(n, 1, 10));
        for (int i = 0; i < n; i++) {
            int c = now.draw() % 24;
            now.height[c] = now.draw() % 100;
        }
        return Arrays.stream(now.height).sum();
    }

    int seed(int v) {
        int was = now.z;
        now.z = v;
        return was;
    }

    // ---- texts

    int feed(int bytes, int n) {
        beyond(off(n, 1, 4));
        find(tape.length() + n > 120, Due.FULL);
        byte[] four = {(byte) (bytes >> 24), (byte) (bytes >> 16), (byte) (bytes >> 8), (byte) bytes};
        for (int i = 4 - n; i < 4; i++) {
            tape.append((char) (four[i] & 255));
        }
        return tape.length();
    }

    int wipe() {
        int had = tape.length();
        tape = new StringBuilder();
        return had;
    }

    int text() {
        String whole = tape.toString();
        tape = new StringBuilder();
        World w = now.copy();
        int answer = new Parser(whole, w).items();
        if (answer > 0) {
            now = w;
        }
        return answer;
    }

    /** Tokens first, all of them; then the grammar over these. */
    static final class Parser {
        final List<String> tokens = new ArrayList<>();
        final List<Integer> places = new ArrayList<>();
        final World w;
        int i = 0;

        static final class Fault extends RuntimeException {
            private static final long serialVersionUID = 1L;
        }

        Parser(String text, World w) {
            this.w = w;
            Matcher m = Pattern.compile("[a-z]+|[0-9]+| +|.", Pattern.DOTALL).matcher(text);
            while (m.find()) {
                if (m.group().charAt(0) != ' ') {
                    tokens.add(m.group());
                    places.add(m.start());
                }
            }
            tokens.add("");
            places.add(text.length());
        }

        int items() {
            int n = 0;
            try {
                do {
                    item();
                    n++;
                } while (perhaps(";"));
                if (!tokens.get(i).isEmpty()) {
                    throw new Fault();
                }
                return n;
            } catch (Fault f) {
                return -1 - places.get(i);
            }
        }

        boolean perhaps(String token) {
            if (tokens.get(i).equals(token)) {
                i++;
                return true;
            }
            return false;
        }

        int number(int low, int high) {
            String t = tokens.get(i);
            if (!t.matches("[0-9]+")) {
                throw new Fault();
            }
            BigInteger v = new BigInteger(t);
            if (v.compareTo(BigInteger.valueOf(low)) < 0 || v.compareTo(BigInteger.valueOf(high)) > 0) {
                throw new Fault();
            }
            i++;
            return v.intValue();
        }

        void item() {
            String word = tokens.get(i);
            if (KINDS.contains(word)) {
                i++;
                thing(KINDS.indexOf(word));
            } else if (word.equals("house") && w.homes.size() < 8) {
                i++;
                home();
            } else if (perhaps("haze")) {
                w.haze = number(1, 23);
            } else if (perhaps("rate")) {
                w.rate = number(0, 99);
            } else {
                throw new Fault();
            }
        }

        void thing(int kind) {
            int from = number(0, 23);
            int to = perhaps("to") ? number(from, 23) : from;
            Integer high = perhaps("high") ? Integer.valueOf(number(0, 99)) : null;
            int age = perhaps("age") ? number(0, 99) : 0;
            for (int c = from; c <= to; c++) {
                w.things[c] = KINDS.get(kind);
                w.age[c] = age;
                if (high != null) {
                    w.height[c] = high;
                }
            }
        }

        void home() {
            int cell = number(0, 23);
            if (!perhaps("floor")) {
                throw new Fault();
            }
            Home h = new Home(cell, number(1, 40));
            if (perhaps("blind")) {
                if (perhaps("west")) {
                    h.west = false;
                } else if (perhaps("east")) {
                    h.east = false;
                } else {
                    throw new Fault();
                }
            }
            w.homes.add(h);
        }
    }

    // ---- spots, sheets

    int hold(int spot, int cell) {
        beyond(off(spot, 0, 9));
        beyond(off(cell, -1, 23));
        now.spots[spot] = cell == -1 ? null : Integer.valueOf(cell);
        return 1;
    }

    int as(int spot, int kind) {
        beyond(off(spot, 0, 9));
        needKind(kind);
        find(now.spots[spot] == null, Due.MISSING);
        String is = now.things[now.spots[spot]];
        String asked = KINDS.get(kind);
        boolean under = asked.equals("land") || asked.equals(is)
            || asked.equals("water") && is.equals("sea") || asked.equals("wood") && is.equals("elm");
        find(!under, Due.KIND);
        return now.spots[spot];
    }

    int sheet(int s, int width, int n) {
        beyond(off(s, 0, 3));
        beyond(!List.of(0, 8, 16, 32).contains(width));
        find(n < 0, Due.SIZE);
        beyond(n > 40);
        bits[s] = width;
        sheets[s] = width == 0 ? null : new int[n];
        return width == 0 ? 0 : n;
    }

    private void needSheet(int s) {
        beyond(off(s, 0, 3));
        find(sheets[s] == null, Due.MISSING);
    }

    int write(int s, int i, int v) {
        needSheet(s);
        beyond(off(i, 0, sheets[s].length - 1));
        long mod = 1L << bits[s];
        long low = Math.floorMod((long) v, mod);
        sheets[s][i] = (int) (low >= mod / 2 ? low - mod : low);
        return 1;
    }

    int copy(int s, int from, int t, int to, int n) {
        beyond(off(s, 0, 3) || off(t, 0, 3));
        find(sheets[s] == null || sheets[t] == null, Due.MISSING);
        find(bits[s] != bits[t], Due.KIND);
        beyond(from < 0 || to < 0 || n < 0);
        beyond((long) from + n > sheets[s].length || (long) to + n > sheets[t].length);
        int[] were = sheets[s].clone();
        for (int i = 0; i < n; i++) {
            sheets[t][to + i] = were[from + i];
        }
        return n;
    }

    int load(int s, int from) {
        needSheet(s);
        needCell(from);
        int n = 0;
        for (int v : sheets[s]) {
            if (off(v, 0, 99) || from + n > 23) {
                break;
            }
            now.height[from + n] = v;
            n++;
        }
        return n;
    }

    int judge(int s, int n) {
        needSheet(s);
        beyond(off(n, 0, 60));
        needTime(n);
        World w = now.ahead(n);
        List<Integer> taxes = new ArrayList<>();
        for (int h = 0; h < w.homes.size(); h++) {
            taxes.add(w.tax(h));
        }
        List<Integer> told = new ArrayList<>();
        for (int v : sheets[s]) {
            told.add(v);
        }
        if (taxes.equals(told)) {
            return 0;
        }
        int right = 0;
        while (right < taxes.size() && right < told.size() && taxes.get(right).equals(told.get(right))) {
            right++;
        }
        return 1 + right;
    }

    // ---- images

    int image() {
        kept = now.copy();
        return 1;
    }

    int undo() {
        find(kept == null, Due.NONE);
        now = kept.copy();
        return now.year;
    }

    int tear() {
        int was = kept == null ? 0 : 1;
        kept = null;
        return was;
    }

    int count(int what) {
        beyond(off(what, 0, 6));
        int held = 0;
        for (Integer spot : now.spots) {
            held += spot == null ? 0 : 1;
        }
        int[] all = {now.year, now.homes.size(), now.allTax(), Integer.bitCount(now.anySight()), tape.length(), now.z, held};
        return all[what];
    }

    final int[] told = new int[7];

    int status(int which) {
        beyond(off(which, -1, 6));
        return which == -1 ? Arrays.stream(told).sum() : told[which];
    }
}
