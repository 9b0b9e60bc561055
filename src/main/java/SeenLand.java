/** A republic on a row of cells that taxes its houses by what they see. DOC.md has the words and promises. */
public final class SeenLand {
    private static final int LOW = -1000001;
    private static final int BEYOND = 0;
    private static final int FULL = 1;
    private static final int KIND = 2;
    private static final int NONE = 3;
    private static final int STATE = 4;
    private static final int MISSING = 5;
    private static final int SIZE = 6;

    private static final int MOST_TAX_ASKED = 99999;
    private static final int MOST_YEAR = 999;
    private static final int MOST_YEARS = 60;

    private final Land land = new Land();
    /** Every "would be" is played here, so that the land itself never has to be mended. */
    private final Land trial = new Land();
    private final Land kept = new Land();
    private boolean isKept = false;
    private final TextReader reader = new TextReader();
    private final Sheets sheets = new Sheets();
    private final int[] told = new int[SIZE + 1];
    /** A number for each house, used again by every call that needs such a row. */
    private final int[] marks = new int[Land.MOST_HOUSES];

    public SeenLand() {
    }

    // ---- cells, houses

    public int cell(int cell, int what, int v) {
        if (!isCell(cell) || !isWithin(what, 0, 1) || !isWithin(v, 0, Land.MOST_MEASURE)) {
            return tell(BEYOND);
        }
        if (what == 0) {
            int was = land.heights[cell];
            land.raiseTo(cell, v);
            return was;
        }
        int was = land.ages[cell];
        land.ageTo(cell, v);
        return was;
    }

    public int set(int cell, int kind) {
        if (!isCell(cell) || !isKind(kind)) {
            return tell(BEYOND);
        }
        int was = land.kinds[cell];
        land.place(cell, kind);
        return was;
    }

    public int cellOf(int cell, int what) {
        if (!isCell(cell)) {
            return tell(BEYOND);
        }
        switch (what) {
            case 0:
                return land.kinds[cell];
            case 1:
                return land.heights[cell];
            case 2:
                return land.ages[cell];
            case 3:
                return land.tops[cell];
            case 4:
                return land.worthOf(cell);
            default:
                return tell(BEYOND);
        }
    }

    public int house(int cell, int floor) {
        if (!isCell(cell) || !isFloor(floor)) {
            return tell(BEYOND);
        }
        if (land.isBuiltUp()) {
            return tell(FULL);
        }
        land.build(cell, floor, Land.BOTH);
        return land.houses - 1;
    }

    public int houseOf(int house, int what) {
        if (!isHouse(house)) {
            return tell(BEYOND);
        }
        switch (what) {
            case 0:
                return land.homes[house];
            case 1:
                return land.floors[house];
            case 2:
                return land.eyeOf(house);
            case 3:
                return land.opens[house];
            default:
                return tell(BEYOND);
        }
    }

    public int floor(int house, int v) {
        if (!isHouse(house) || !isFloor(v)) {
            return tell(BEYOND);
        }
        int was = land.floors[house];
        land.floors[house] = v;
        return was;
    }

    public int windows(int house, int open) {
        if (!isHouse(house) || !isWithin(open, 0, Land.BOTH)) {
            return tell(BEYOND);
        }
        int was = land.opens[house];
        land.opens[house] = open;
        return was;
    }

    public int law(int what, int v) {
        if (what == 0 && isWithin(v, 1, Land.MOST_HAZE)) {
            int was = land.haze;
            land.haze = v;
            return was;
        }
        if (what == 1 && isWithin(v, 0, Land.MOST_RATE)) {
            int was = land.rate;
            land.rate = v;
            return was;
        }
        return tell(BEYOND);
    }

    public int dig(int from, int to, int n) {
        if (!isCell(from) || !isCell(to) || to < from || !isWithin(n, 1, 99)) {
            return tell(BEYOND);
        }
        int flat = 0;
        for (int c = from; c <= to; c++) {
            land.lower(c, n);
            if (land.heights[c] == 0) {
                flat++;
            }
        }
        return flat;
    }

    public int drain(int n) {
        if (!isWithin(n, 0, 20)) {
            return tell(BEYOND);
        }
        int drained = 0;
        for (int c = 0; c < Land.CELLS; c++) {
            if (land.kinds[c] == Land.WATER) {
                land.turnInto(c, Land.FIELD);
                land.lower(c, n);
                drained++;
            }
        }
        return drained;
    }

    // ---- sights

    public int sight(int house) {
        if (!isHouse(house)) {
            return tell(BEYOND);
        }
        return land.sightOf(house);
    }

    public int sees(int house, int cell) {
        if (!isHouse(house) || !isCell(cell)) {
            return tell(BEYOND);
        }
        return land.hasInSight(house, cell) ? 1 : 0;
    }

    public int seenBy(int cell) {
        if (!isCell(cell)) {
            return tell(BEYOND);
        }
        int set = 0;
        for (int h = 0; h < land.houses; h++) {
            if (land.hasInSight(h, cell)) {
                set |= 1 << h;
            }
        }
        return set;
    }

    public int neighbours(int house) {
        if (!isHouse(house)) {
            return tell(BEYOND);
        }
        int seen = land.sightOf(house);
        int set = 0;
        for (int h = 0; h < land.houses; h++) {
            if (h != house && Land.isIn(land.homes[h], seen)) {
                set |= 1 << h;
            }
        }
        return set;
    }

    public int hidden(int house, int cell) {
        if (!isHouse(house) || !isCell(cell)) {
            return tell(BEYOND);
        }
        if (!land.looksTowards(house, cell)) {
            return tell(STATE);
        }
        int hider = land.hiderOf(house, cell);
        return hider < 0 ? tell(NONE) : hider;
    }

    // ---- taxes

    public int tax(int house) {
        if (!isHouse(house)) {
            return tell(BEYOND);
        }
        return land.taxOf(house);
    }

    public int all() {
        return land.allTax();
    }

    public int cheapest(int house) {
        if (!isHouse(house)) {
            return tell(BEYOND);
        }
        return thriftyFloor(house);
    }

    public int widest(int house) {
        if (!isHouse(house)) {
            return tell(BEYOND);
        }
        trial.takeAll(land);
        int best = 1;
        int most = 0;
        for (int f = 1; f <= Land.MOST_FLOOR; f++) {
            trial.floors[house] = f;
            int seen = Integer.bitCount(trial.sightOf(house));
            if (seen > most) {
                most = seen;
                best = f;
            }
        }
        return best;
    }

    public int wall(int house, int cell) {
        if (!isHouse(house) || !isCell(cell)) {
            return tell(BEYOND);
        }
        trial.takeAll(land);
        int best = -1;
        int least = 0;
        for (int open = 0; open <= Land.BOTH; open++) {
            trial.opens[house] = open;
            int due = trial.taxOf(house);
            if (trial.hasInSight(house, cell) && (best < 0 || due < least)) {
                least = due;
                best = open;
            }
        }
        return best < 0 ? tell(NONE) : best;
    }

    public int rateFor(int v) {
        if (!isTaxAsked(v)) {
            return tell(BEYOND);
        }
        for (int h = 0; h < land.houses; h++) {
            marks[h] = land.worthSeenBy(h);
        }
        for (int rate = 0; rate <= Land.MOST_RATE; rate++) {
            int sum = 0;
            for (int h = 0; h < land.houses; h++) {
                sum += Land.taxFor(marks[h], rate);
            }
            if (sum >= v) {
                return rate;
            }
        }
        return tell(NONE);
    }

    // ---- for whose good

    public int shade(int house, int kind, int n) {
        if (!isHouse(house) || !isKind(kind) || !isSpan(n)) {
            return tell(BEYOND);
        }
        if (isTooLate(n)) {
            return tell(STATE);
        }
        int best = -1;
        int least = 0;
        for (int c = 0; c < Land.CELLS; c++) {
            tryThing(c, kind, n);
            int due = trial.taxOf(house);
            if (best < 0 || due < least) {
                least = due;
                best = c;
            }
        }
        return best;
    }

    public int gains(int cell, int kind, int n) {
        if (!isCell(cell) || !isKind(kind) || !isSpan(n)) {
            return tell(BEYOND);
        }
        if (isTooLate(n)) {
            return tell(STATE);
        }
        tryYears(n);
        for (int h = 0; h < land.houses; h++) {
            marks[h] = trial.taxOf(h);
        }
        tryThing(cell, kind, n);
        int set = 0;
        for (int h = 0; h < land.houses; h++) {
            if (trial.taxOf(h) < marks[h]) {
                set |= 1 << h;
            }
        }
        return set;
    }

    public int plant(int kind) {
        if (!isKind(kind)) {
            return tell(BEYOND);
        }
        int best = -1;
        int most = 0;
        for (int c = 0; c < Land.CELLS; c++) {
            tryThing(c, kind, 0);
            int due = trial.allTax();
            if (best < 0 || due > most) {
                most = due;
                best = c;
            }
        }
        return best;
    }

    public int two(int kind) {
        if (!isKind(kind)) {
            return tell(BEYOND);
        }
        int best = -1;
        int least = 0;
        trial.takeAll(land);
        for (int a = 0; a < Land.CELLS; a++) {
            trial.place(a, kind);
            for (int b = a + 1; b < Land.CELLS; b++) {
                trial.place(b, kind);
                int due = trial.allTax();
                if (best < 0 || due < least) {
                    least = due;
                    best = 100 * a + b;
                }
                trial.takeCell(land, b);
            }
            trial.takeCell(land, a);
        }
        return best;
    }

    public int restless() {
        int restless = 0;
        for (int h = 0; h < land.houses; h++) {
            int better = thriftyFloor(h);
            trial.floors[h] = better;
            if (trial.taxOf(h) < land.taxOf(h)) {
                restless++;
            }
        }
        return restless;
    }

    // ---- assessors, old returns

    public int walk() {
        for (int h = 0; h < land.houses; h++) {
            marks[h] = land.sightOf(h);
        }
        int everything = sightsOf((1 << land.houses) - 1);
        int best = 0;
        int fewest = land.houses + 1;
        for (int set = 0; set < 1 << land.houses; set++) {
            int size = Integer.bitCount(set);
            if (size < fewest && sightsOf(set) == everything) {
                fewest = size;
                best = set;
            }
        }
        return best;
    }

    public int blind() {
        return Land.ALL_CELLS & ~land.allSight();
    }

    public int heights(int cell, int house, int v) {
        if (!isCell(cell) || !isHouse(house) || !isTaxAsked(v)) {
            return tell(BEYOND);
        }
        trial.takeAll(land);
        int fitting = 0;
        for (int high = 0; high <= Land.MOST_MEASURE; high++) {
            trial.raiseTo(cell, high);
            if (trial.taxOf(house) == v) {
                fitting++;
            }
        }
        return fitting;
    }

    public int height(int cell, int house, int v, int what) {
        if (!isCell(cell) || !isHouse(house) || !isTaxAsked(v) || !isWithin(what, 0, 1)) {
            return tell(BEYOND);
        }
        trial.takeAll(land);
        for (int i = 0; i <= Land.MOST_MEASURE; i++) {
            int high = what == 0 ? i : Land.MOST_MEASURE - i;
            trial.raiseTo(cell, high);
            if (trial.taxOf(house) == v) {
                return high;
            }
        }
        return tell(NONE);
    }

    public int which(int cell, int v) {
        if (!isCell(cell) || !isTaxAsked(v)) {
            return tell(BEYOND);
        }
        trial.takeAll(land);
        for (int h = 0; h < land.houses; h++) {
            trial.homes[h] = cell;
            if (trial.taxOf(h) == v) {
                return h;
            }
        }
        return tell(NONE);
    }

    // ---- years

    public int years(int n) {
        if (!isWithin(n, 1, MOST_YEARS)) {
            return tell(BEYOND);
        }
        if (isTooLate(n)) {
            return tell(STATE);
        }
        land.grow(n);
        return land.year;
    }

    public int ahead(int n, int what) {
        if (!isSpan(n) || !isWithin(what, 0, land.houses)) {
            return tell(BEYOND);
        }
        if (isTooLate(n)) {
            return tell(STATE);
        }
        tryYears(n);
        return what == 0 ? trial.allTax() : trial.taxOf(what - 1);
    }

    public int lost(int house, int cell) {
        if (!isHouse(house) || !isCell(cell)) {
            return tell(BEYOND);
        }
        if (isTooLate(MOST_YEARS)) {
            return tell(STATE);
        }
        trial.takeAll(land);
        for (int n = 0; n <= MOST_YEARS; n++) {
            if (!trial.hasInSight(house, cell)) {
                return n;
            }
            trial.grow(1);
        }
        return tell(NONE);
    }

    public int when(int house) {
        if (!isHouse(house)) {
            return tell(BEYOND);
        }
        if (isTooLate(MOST_YEARS)) {
            return tell(STATE);
        }
        trial.takeAll(land);
        int best = -1;
        int least = 0;
        for (int n = 0; n <= MOST_YEARS; n++) {
            int due = trial.taxOf(house);
            if (best < 0 || due < least) {
                least = due;
                best = n;
            }
            trial.grow(1);
        }
        return best;
    }

    public int quake(int n) {
        if (!isWithin(n, 1, 10)) {
            return tell(BEYOND);
        }
        for (int i = 0; i < n; i++) {
            int struck = land.draw() % Land.CELLS;
            land.raiseTo(struck, land.draw() % 100);
        }
        int sum = 0;
        for (int c = 0; c < Land.CELLS; c++) {
            sum += land.heights[c];
        }
        return sum;
    }

    public int seed(int v) {
        int was = land.z;
        land.z = v;
        return was;
    }

    // ---- texts

    public int feed(int bytes, int n) {
        if (!isWithin(n, 1, 4)) {
            return tell(BEYOND);
        }
        if (!reader.tape.hasRoomFor(n)) {
            return tell(FULL);
        }
        for (int i = n - 1; i >= 0; i--) {
            reader.tape.append(bytes >>> (8 * i));
        }
        return reader.tape.size;
    }

    public int wipe() {
        int had = reader.tape.size;
        reader.tape.size = 0;
        return had;
    }

    public int text() {
        trial.takeAll(land);
        int items = reader.readInto(trial);
        if (items >= 0) {
            land.takeAll(trial);
        }
        reader.tape.size = 0;
        return items;
    }

    // ---- spots, sheets

    public int hold(int spot, int cell) {
        if (!isSpot(spot) || cell != Land.NOTHING && !isCell(cell)) {
            return tell(BEYOND);
        }
        land.spots[spot] = cell;
        return 1;
    }

    public int as(int spot, int kind) {
        if (!isSpot(spot) || !isKind(kind)) {
            return tell(BEYOND);
        }
        int cell = land.spots[spot];
        if (!isCell(cell)) {
            return tell(MISSING);
        }
        return Land.isOfKind(land.kinds[cell], kind) ? cell : tell(KIND);
    }

    public int sheet(int s, int bits, int n) {
        if (!Sheets.isSheet(s) || bits != 0 && bits != 8 && bits != 16 && bits != 32) {
            return tell(BEYOND);
        }
        if (n < 0) {
            return tell(SIZE);
        }
        if (n > Sheets.MOST_NUMBERS) {
            return tell(BEYOND);
        }
        sheets.make(s, bits, bits == 0 ? 0 : n);
        return sheets.sizes[s];
    }

    public int write(int s, int i, int v) {
        if (!Sheets.isSheet(s)) {
            return tell(BEYOND);
        }
        if (sheets.isMissing(s)) {
            return tell(MISSING);
        }
        if (!sheets.hasRun(s, i, 1)) {
            return tell(BEYOND);
        }
        sheets.put(s, i, v);
        return 1;
    }

    public int copy(int s, int from, int t, int to, int n) {
        if (!Sheets.isSheet(s) || !Sheets.isSheet(t)) {
            return tell(BEYOND);
        }
        if (sheets.isMissing(s) || sheets.isMissing(t)) {
            return tell(MISSING);
        }
        if (sheets.widths[s] != sheets.widths[t]) {
            return tell(KIND);
        }
        if (!sheets.hasRun(s, from, n) || !sheets.hasRun(t, to, n)) {
            return tell(BEYOND);
        }
        sheets.move(s, from, t, to, n);
        return n;
    }

    public int load(int s, int from) {
        if (!Sheets.isSheet(s)) {
            return tell(BEYOND);
        }
        if (sheets.isMissing(s)) {
            return tell(MISSING);
        }
        if (!isCell(from)) {
            return tell(BEYOND);
        }
        int came = 0;
        while (came < sheets.sizes[s] && isCell(from + came)
                && isWithin(sheets.numberAt(s, came), 0, Land.MOST_MEASURE)) {
            land.raiseTo(from + came, sheets.numberAt(s, came));
            came++;
        }
        return came;
    }

    public int judge(int s, int n) {
        if (!Sheets.isSheet(s)) {
            return tell(BEYOND);
        }
        if (sheets.isMissing(s)) {
            return tell(MISSING);
        }
        if (!isSpan(n)) {
            return tell(BEYOND);
        }
        if (isTooLate(n)) {
            return tell(STATE);
        }
        tryYears(n);
        int right = 0;
        while (right < sheets.sizes[s] && right < trial.houses
                && sheets.numberAt(s, right) == trial.taxOf(right)) {
            right++;
        }
        boolean isWhole = right == sheets.sizes[s] && right == trial.houses;
        return isWhole ? 0 : 1 + right;
    }

    // ---- images

    public int image() {
        kept.takeAll(land);
        isKept = true;
        return 1;
    }

    public int undo() {
        if (!isKept) {
            return tell(NONE);
        }
        land.takeAll(kept);
        return land.year;
    }

    public int tear() {
        int was = isKept ? 1 : 0;
        isKept = false;
        return was;
    }

    public int count(int what) {
        switch (what) {
            case 0:
                return land.year;
            case 1:
                return land.houses;
            case 2:
                return land.allTax();
            case 3:
                return Integer.bitCount(land.allSight());
            case 4:
                return reader.tape.size;
            case 5:
                return land.z;
            case 6:
                return land.spotsInUse();
            default:
                return tell(BEYOND);
        }
    }

    public int status(int which) {
        if (which == -1) {
            int sum = 0;
            for (int finding = BEYOND; finding <= SIZE; finding++) {
                sum += told[finding];
            }
            return sum;
        }
        if (!isWithin(which, BEYOND, SIZE)) {
            return tell(BEYOND);
        }
        return told[which];
    }

    // ---- what the acts share

    private int tell(int finding) {
        told[finding]++;
        return LOW - finding;
    }

    private static boolean isWithin(int v, int least, int most) {
        return v >= least && v <= most;
    }

    private static boolean isCell(int cell) {
        return isWithin(cell, 0, Land.CELLS - 1);
    }

    private static boolean isKind(int kind) {
        return isWithin(kind, Land.LAND, Land.ELM);
    }

    private static boolean isFloor(int floor) {
        return isWithin(floor, 1, Land.MOST_FLOOR);
    }

    private static boolean isSpot(int spot) {
        return isWithin(spot, 0, Land.SPOTS - 1);
    }

    private static boolean isSpan(int years) {
        return isWithin(years, 0, MOST_YEARS);
    }

    private static boolean isTaxAsked(int v) {
        return isWithin(v, 0, MOST_TAX_ASKED);
    }

    private boolean isHouse(int house) {
        return isWithin(house, 0, land.houses - 1);
    }

    private boolean isTooLate(int years) {
        return land.year + years > MOST_YEAR;
    }

    private void tryYears(int n) {
        trial.takeAll(land);
        trial.grow(n);
    }

    private void tryThing(int cell, int kind, int n) {
        trial.takeAll(land);
        trial.place(cell, kind);
        trial.grow(n);
    }

    private int thriftyFloor(int house) {
        trial.takeAll(land);
        int best = -1;
        int least = 0;
        for (int f = 1; f <= Land.MOST_FLOOR; f++) {
            trial.floors[house] = f;
            int due = trial.taxOf(house);
            if (best < 0 || due < least) {
                least = due;
                best = f;
            }
        }
        return best;
    }

    /** The marks of a set of houses, joined: the caller has put the sights there. */
    private int sightsOf(int set) {
        int seen = 0;
        for (int h = 0; h < land.houses; h++) {
            if (Land.isIn(h, set)) {
                seen |= marks[h];
            }
        }
        return seen;
    }

    /** All that an image keeps. Its methods trust their arguments: the acts have looked at them. */
    private static final class Land {
        private static final int CELLS = 24;
        private static final int ALL_CELLS = (1 << CELLS) - 1;
        private static final int MOST_MEASURE = 99;
        private static final int MOST_HOUSES = 8;
        private static final int MOST_FLOOR = 40;
        private static final int MOST_HAZE = 23;
        private static final int MOST_RATE = 99;
        private static final int SPOTS = 10;
        private static final int NOTHING = -1;

        private static final int LAND = 0;
        private static final int WATER = 1;
        private static final int FIELD = 2;
        private static final int SEA = 3;
        private static final int ROOF = 4;
        private static final int WOOD = 5;
        private static final int ELM = 6;
        private static final int[] KIND_ABOVE = {NOTHING, LAND, LAND, WATER, LAND, LAND, WOOD};
        private static final int[] WORTHS = {1, 5, 3, 20, 0, 1, 3};

        private static final int WEST = 1;
        private static final int EAST = 2;
        private static final int BOTH = WEST | EAST;

        private final int[] kinds = new int[CELLS];
        private final int[] heights = new int[CELLS];
        private final int[] ages = new int[CELLS];
        /** Kept beside what they follow from: sights ask for them far more often than they change. */
        private final int[] tops = new int[CELLS];
        private final int[] homes = new int[MOST_HOUSES];
        private final int[] floors = new int[MOST_HOUSES];
        private final int[] opens = new int[MOST_HOUSES];
        private final int[] spots = new int[SPOTS];
        private int houses = 0;
        private int haze = MOST_HAZE;
        private int rate = 10;
        private int year = 0;
        private int z = 1;

        private Land() {
            for (int i = 0; i < SPOTS; i++) {
                spots[i] = NOTHING;
            }
        }

        private void takeAll(Land other) {
            System.arraycopy(other.kinds, 0, kinds, 0, CELLS);
            System.arraycopy(other.heights, 0, heights, 0, CELLS);
            System.arraycopy(other.ages, 0, ages, 0, CELLS);
            System.arraycopy(other.tops, 0, tops, 0, CELLS);
            System.arraycopy(other.homes, 0, homes, 0, MOST_HOUSES);
            System.arraycopy(other.floors, 0, floors, 0, MOST_HOUSES);
            System.arraycopy(other.opens, 0, opens, 0, MOST_HOUSES);
            System.arraycopy(other.spots, 0, spots, 0, SPOTS);
            houses = other.houses;
            haze = other.haze;
            rate = other.rate;
            year = other.year;
            z = other.z;
        }

        private void takeCell(Land other, int cell) {
            kinds[cell] = other.kinds[cell];
            heights[cell] = other.heights[cell];
            ages[cell] = other.ages[cell];
            tops[cell] = other.tops[cell];
        }

        private void place(int cell, int kind) {
            kinds[cell] = kind;
            ages[cell] = 0;
            renewTop(cell);
        }

        private void turnInto(int cell, int kind) {
            kinds[cell] = kind;
            renewTop(cell);
        }

        private void raiseTo(int cell, int v) {
            heights[cell] = v;
            renewTop(cell);
        }

        private void lower(int cell, int n) {
            raiseTo(cell, Math.max(0, heights[cell] - n));
        }

        private void ageTo(int cell, int v) {
            ages[cell] = v;
            renewTop(cell);
        }

        private void grow(int n) {
            for (int c = 0; c < CELLS; c++) {
                ageTo(c, Math.min(MOST_MEASURE, ages[c] + n));
            }
            year += n;
        }

        private void renewTop(int cell) {
            tops[cell] = topFor(kinds[cell], heights[cell], ages[cell]);
        }

        private static int topFor(int kind, int high, int age) {
            switch (kind) {
                case SEA:
                    return 0;
                case ROOF:
                    return high + 5;
                case WOOD:
                    return high + Math.min(age, 30);
                case ELM:
                    return high + Math.min(age, 30) + age / 2;
                default:
                    return high;
            }
        }

        private int worthOf(int cell) {
            return WORTHS[kinds[cell]];
        }

        private static boolean isOfKind(int kind, int asked) {
            int up = kind;
            for (int i = 0; i < KIND_ABOVE.length && up != NOTHING; i++) {
                if (up == asked) {
                    return true;
                }
                up = KIND_ABOVE[up];
            }
            return false;
        }

        private static boolean isIn(int number, int set) {
            return (set >> number & 1) == 1;
        }

        private boolean isBuiltUp() {
            return houses >= MOST_HOUSES;
        }

        private void build(int cell, int floor, int open) {
            homes[houses] = cell;
            floors[houses] = floor;
            opens[houses] = open;
            houses++;
        }

        private int eyeOf(int house) {
            return tops[homes[house]] + floors[house];
        }

        private int sightOf(int house) {
            int seen = 1 << homes[house];
            if ((opens[house] & WEST) != 0) {
                seen |= lookOut(house, -1);
            }
            if ((opens[house] & EAST) != 0) {
                seen |= lookOut(house, 1);
            }
            return seen;
        }

        /**
         * A cell is seen just if its line is steeper than every line before it. The steepest is
         * kept as a fraction, and -1 by 0 stands for one that is below all others.
         */
        private int lookOut(int house, int step) {
            int home = homes[house];
            int eye = eyeOf(house);
            int reach = Math.min(haze, step < 0 ? home : CELLS - 1 - home);
            int steepRise = -1;
            int steepFar = 0;
            int seen = 0;
            for (int far = 1; far <= reach; far++) {
                int c = home + step * far;
                int rise = tops[c] - eye;
                if (steepRise * far < rise * steepFar) {
                    steepRise = rise;
                    steepFar = far;
                    seen |= 1 << c;
                }
            }
            return seen;
        }

        private boolean hasInSight(int house, int cell) {
            return isIn(cell, sightOf(house));
        }

        private boolean looksTowards(int house, int cell) {
            int home = homes[house];
            int side = cell < home ? WEST : EAST;
            return cell != home && (opens[house] & side) != 0 && Math.abs(cell - home) <= haze;
        }

        private int hiderOf(int house, int cell) {
            int home = homes[house];
            int eye = eyeOf(house);
            int step = cell < home ? -1 : 1;
            int wholeWay = Math.abs(cell - home);
            int rise = tops[cell] - eye;
            for (int far = 1; far < wholeWay; far++) {
                int between = home + step * far;
                if ((tops[between] - eye) * wholeWay >= rise * far) {
                    return between;
                }
            }
            return NOTHING;
        }

        private int allSight() {
            int seen = 0;
            for (int h = 0; h < houses; h++) {
                seen |= sightOf(h);
            }
            return seen;
        }

        private int worthSeenBy(int house) {
            int seen = sightOf(house) & ~(1 << homes[house]);
            int sum = 0;
            for (int c = 0; c < CELLS; c++) {
                if (isIn(c, seen)) {
                    sum += worthOf(c);
                }
            }
            return sum;
        }

        private static int taxFor(int worth, int rate) {
            return worth * rate / 10;
        }

        private int taxOf(int house) {
            return taxFor(worthSeenBy(house), rate);
        }

        private int allTax() {
            int sum = 0;
            for (int h = 0; h < houses; h++) {
                sum += taxOf(h);
            }
            return sum;
        }

        private int draw() {
            z = z * 1103515245 + 12345;
            return z >>> 8;
        }

        private int spotsInUse() {
            int held = 0;
            for (int i = 0; i < SPOTS; i++) {
                if (spots[i] != NOTHING) {
                    held++;
                }
            }
            return held;
        }
    }

    /** The tape, and the token of it that is being looked at. */
    private static final class Tape {
        private static final int MOST_BYTES = 120;
        private static final int MOST_NUMBER = 999;

        private static final int END = 0;
        private static final int WORD = 1;
        private static final int NUMBER = 2;
        private static final int SIGN = 3;
        private static final int STRANGE = 4;

        private final int[] bytes = new int[MOST_BYTES];
        private int size = 0;
        private int at = 0;
        private int sort = END;
        private int start = 0;
        private int number = 0;

        private boolean hasRoomFor(int n) {
            return size + n <= MOST_BYTES;
        }

        private void append(int b) {
            bytes[size] = b & 255;
            size++;
        }

        private void rewind() {
            at = 0;
            step();
        }

        private void step() {
            while (at < size && bytes[at] == ' ') {
                at++;
            }
            start = at;
            sort = sortAt(at);
            number = 0;
            while (at < size && sortAt(at) == sort && (at == start || sort == WORD || sort == NUMBER)) {
                if (sort == NUMBER) {
                    takeDigit(bytes[at] - '0');
                }
                at++;
            }
        }

        /** A row of digits may be as long as the tape: what is too much once stays so. */
        private void takeDigit(int digit) {
            number = number > MOST_NUMBER ? number : number * 10 + digit;
        }

        private int sortAt(int place) {
            if (place >= size) {
                return END;
            }
            int b = bytes[place];
            if (b >= 'a' && b <= 'z') {
                return WORD;
            }
            if (b >= '0' && b <= '9') {
                return NUMBER;
            }
            return b == ';' ? SIGN : STRANGE;
        }

        private boolean isWord(String word) {
            if (sort != WORD || at - start != word.length()) {
                return false;
            }
            for (int i = 0; i < word.length(); i++) {
                if (bytes[start + i] != word.charAt(i)) {
                    return false;
                }
            }
            return true;
        }
    }

    /** Reads texts. Whatever fails leaves the tape at the token that can't stand there: the fault. */
    private static final class TextReader {
        private static final int WRONG = -2;
        private static final int UNTOLD = -1;

        private final Tape tape = new Tape();

        private int readInto(Land land) {
            tape.rewind();
            for (int items = 1; items <= Tape.MOST_BYTES; items++) {
                if (!readItem(land)) {
                    return faultHere();
                }
                if (tape.sort == Tape.END) {
                    return items;
                }
                if (tape.sort != Tape.SIGN) {
                    return faultHere();
                }
                tape.step();
            }
            return faultHere();
        }

        private int faultHere() {
            return -1 - tape.start;
        }

        private boolean readItem(Land land) {
            if (tape.isWord("house")) {
                return !land.isBuiltUp() && readHouse(land);
            }
            if (passes("haze")) {
                return readHaze(land);
            }
            if (passes("rate")) {
                return readRate(land);
            }
            int kind = readKind();
            return kind != WRONG && readThing(land, kind);
        }

        private int readKind() {
            if (passes("land")) {
                return Land.LAND;
            }
            if (passes("water")) {
                return Land.WATER;
            }
            if (passes("field")) {
                return Land.FIELD;
            }
            if (passes("sea")) {
                return Land.SEA;
            }
            if (passes("roof")) {
                return Land.ROOF;
            }
            if (passes("wood")) {
                return Land.WOOD;
            }
            return passes("elm") ? Land.ELM : WRONG;
        }

        private boolean readThing(Land land, int kind) {
            int from = readNumber(0, Land.CELLS - 1);
            if (from == WRONG) {
                return false;
            }
            int to = passes("to") ? readNumber(from, Land.CELLS - 1) : from;
            if (to == WRONG) {
                return false;
            }
            int high = passes("high") ? readNumber(0, Land.MOST_MEASURE) : UNTOLD;
            if (high == WRONG) {
                return false;
            }
            int age = passes("age") ? readNumber(0, Land.MOST_MEASURE) : 0;
            if (age == WRONG) {
                return false;
            }
            for (int c = from; c <= to; c++) {
                land.place(c, kind);
                land.ageTo(c, age);
                if (high != UNTOLD) {
                    land.raiseTo(c, high);
                }
            }
            return true;
        }

        private boolean readHouse(Land land) {
            tape.step();
            int home = readNumber(0, Land.CELLS - 1);
            if (home == WRONG || !passes("floor")) {
                return false;
            }
            int level = readNumber(1, Land.MOST_FLOOR);
            if (level == WRONG) {
                return false;
            }
            int open = Land.BOTH;
            if (passes("blind")) {
                if (passes("west")) {
                    open = Land.EAST;
                } else if (passes("east")) {
                    open = Land.WEST;
                } else {
                    return false;
                }
            }
            land.build(home, level, open);
            return true;
        }

        private boolean readHaze(Land land) {
            int v = readNumber(1, Land.MOST_HAZE);
            if (v == WRONG) {
                return false;
            }
            land.haze = v;
            return true;
        }

        private boolean readRate(Land land) {
            int v = readNumber(0, Land.MOST_RATE);
            if (v == WRONG) {
                return false;
            }
            land.rate = v;
            return true;
        }

        private boolean passes(String word) {
            if (!tape.isWord(word)) {
                return false;
            }
            tape.step();
            return true;
        }

        private int readNumber(int least, int most) {
            int v = tape.number;
            if (tape.sort != Tape.NUMBER || v < least || v > most) {
                return WRONG;
            }
            tape.step();
            return v;
        }
    }

    /** All sheets in one row of numbers. A width of 0 bits: the sheet is missing. */
    private static final class Sheets {
        private static final int SHEETS = 4;
        private static final int MOST_NUMBERS = 40;

        private final int[] widths = new int[SHEETS];
        private final int[] sizes = new int[SHEETS];
        private final int[] numbers = new int[SHEETS * MOST_NUMBERS];

        private static boolean isSheet(int s) {
            return s >= 0 && s < SHEETS;
        }

        private boolean isMissing(int s) {
            return widths[s] == 0;
        }

        private void make(int s, int bits, int n) {
            widths[s] = bits;
            sizes[s] = n;
            for (int i = 0; i < n; i++) {
                numbers[s * MOST_NUMBERS + i] = 0;
            }
        }

        /** Asked without a sum, which could pass the greatest int. */
        private boolean hasRun(int s, int from, int n) {
            return from >= 0 && n >= 0 && n <= sizes[s] && from <= sizes[s] - n;
        }

        private int numberAt(int s, int i) {
            return numbers[s * MOST_NUMBERS + i];
        }

        private void put(int s, int i, int v) {
            numbers[s * MOST_NUMBERS + i] = cutTo(widths[s], v);
        }

        private static int cutTo(int bits, int v) {
            if (bits == 8) {
                return (byte) v;
            }
            return bits == 16 ? (short) v : v;
        }

        private void move(int s, int from, int t, int to, int n) {
            System.arraycopy(numbers, s * MOST_NUMBERS + from, numbers, t * MOST_NUMBERS + to, n);
        }
    }
}
