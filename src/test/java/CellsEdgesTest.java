/** The edges that promises 2 to 11 name: cells, houses. */
public final class CellsEdgesTest {
    private static final Due due = new Due();
    private static final Edges busy = new Edges(due, Made::busy);
    private static final Edges bare = new Edges(due, SeenLand::new);
    private static final Edges eight = new Edges(due, Made::eightHouses);
    private static final Edges full = new Edges(due, Made::busyAndFull);

    public static void main(String[] args) {
        cellTakesACellAHeightAnAge();
        cellBecomesWhatIsAtTheEnds();
        setTakesACellAndAKind();
        setBringsAgeTo0();
        cellOfTakesACellAndAWhat();
        houseTakesACellAndAFloor();
        houseIsFullWithEight();
        houseAsksBeyondAheadOfFull();
        houseMayShareACell();
        houseOfTakesAHouseAndAWhat();
        floorTakesAHouseAndAFloor();
        windowsTakesAHouseAndASet();
        lawTakesAWhatAndItsNumber();
        digTakesARowAndADepth();
        digEndsAt0();
        digCountsThoseThatWere();
        digLeavesTheCellsBesideIt();
        drainTakesADepth();
        drainEndsAt0();
        drainTakesWaterAlone();
        drainTakesNoneAndAll();
        due.end();
    }

    private static void cellTakesACellAHeightAnAge() {
        due.begin("2 cell: BEYOND");
        busy.ends("cell(#, 0, 50)", 0, 23, (x, v) -> x.cell(v, 0, 50), 6, 0);
        busy.ends("cell(#, 1, 50)", 0, 23, (x, v) -> x.cell(v, 1, 50), 4, 4);
        busy.ends("cell(5, #, 50)", 0, 1, (x, v) -> x.cell(5, v, 50), 8, 6);
        busy.ends("cell(5, 0, #)", 0, 99, (x, v) -> x.cell(5, 0, v), 8, 8);
        busy.ends("cell(5, 1, #)", 0, 99, (x, v) -> x.cell(5, 1, v), 6, 6);
    }

    private static void cellBecomesWhatIsAtTheEnds() {
        due.begin("2 cell: HEIGHT, AGE becomes v");
        for (int v : new int[] {0, 1, 98, 99}) {
            bare.answers("height " + v, v, x -> {
                x.cell(23, 0, v);
                return x.cellOf(23, 1);
            });
            bare.answers("age " + v, v, x -> {
                x.cell(0, 1, v);
                return x.cellOf(0, 2);
            });
            bare.answers("what the height was: " + v, v, x -> {
                x.cell(0, 0, v);
                return x.cell(0, 0, 50);
            });
        }
    }

    private static void setTakesACellAndAKind() {
        due.begin("3 set: BEYOND");
        busy.ends("set(#, 3)", 0, 23, (x, v) -> x.set(v, 3), 0, 0);
        busy.ends("set(7, #)", 0, 6, (x, v) -> x.set(7, v), 6, 6);
    }

    private static void setBringsAgeTo0() {
        due.begin("TO SET a thing on a CELL: KIND is told, AGE is 0");
        for (int kind = 0; kind <= 6; kind++) {
            int k = kind;
            bare.answers("age behind set(23, " + k + ")", 0, x -> {
                x.cell(23, 1, 99);
                x.set(23, k);
                return x.cellOf(23, 2);
            });
            bare.answers("age where that kind was: " + k, 0, x -> {
                x.set(0, k);
                x.cell(0, 1, 1);
                x.set(0, k);
                return x.cellOf(0, 2);
            });
            bare.answers("the kind that was: " + k, k, x -> {
                x.set(0, k);
                return x.set(0, 0);
            });
        }
    }

    private static void cellOfTakesACellAndAWhat() {
        due.begin("4 cellOf: BEYOND");
        busy.ends("cellOf(#, 1)", 0, 23, (x, v) -> x.cellOf(v, 1), 6, 0);
        busy.ends("cellOf(6, #)", 0, 4, (x, v) -> x.cellOf(6, v), 6, 3);
        int[] ofAnElm = {6, 3, 44, 3 + 30 + 22, 3};
        for (int what = 0; what < ofAnElm.length; what++) {
            int w = what;
            busy.tells("cellOf(6, " + w + ")", ofAnElm[w], x -> x.cellOf(6, w));
        }
    }

    private static void houseTakesACellAndAFloor() {
        due.begin("5 house: BEYOND");
        busy.ends("house(#, 5)", 0, 23, (x, v) -> x.house(v, 5), 3, 3);
        busy.ends("house(5, #)", 1, 40, (x, v) -> x.house(5, v), 3, 3);
        for (int floor : new int[] {1, 40}) {
            bare.answers("floor " + floor, floor, x -> {
                x.house(0, floor);
                return x.houseOf(0, 1);
            });
        }
    }

    private static void houseIsFullWithEight() {
        due.begin("5 house: FULL");
        SeenLand x = new SeenLand();
        for (int h = 0; h < 8; h++) {
            due.is("house " + h, x.house(23 - h, 40 - h), h);
            due.is("its windows", x.houseOf(h, 3), 3);
        }
        full.refuses("a ninth", Due.FULL, y -> y.house(0, 1));
        full.refuses("a ninth at the other ends", Due.FULL, y -> y.house(23, 40));
    }

    private static void houseAsksBeyondAheadOfFull() {
        due.begin("5 house: BEYOND is asked ahead of FULL");
        full.refusesEach("house(#, 1)", Due.BEYOND, (x, v) -> x.house(v, 1), -1, 24);
        full.refusesEach("house(0, #)", Due.BEYOND, (x, v) -> x.house(0, v), 0, 41);
    }

    private static void houseMayShareACell() {
        due.begin("HOUSES: two may be on one CELL");
        SeenLand x = new SeenLand();
        for (int h = 0; h < 8; h++) {
            due.is("house(5, 1) again", x.house(5, 1), h);
        }
        due.is("all eight are there", x.seenBy(5), 255);
    }

    private static void houseOfTakesAHouseAndAWhat() {
        due.begin("6 houseOf: BEYOND");
        busy.ends("houseOf(#, 1)", 0, 2, (x, v) -> x.houseOf(v, 1), 4, 9);
        busy.ends("houseOf(0, #)", 0, 3, (x, v) -> x.houseOf(0, v), 10, 3);
        eight.ends("houseOf(#, 0)", 0, 7, (x, v) -> x.houseOf(v, 0), 0, 21);
        bare.refusesEach("houseOf(#, 0) without houses", Due.BEYOND, (x, v) -> x.houseOf(v, 0), -1, 0, 1);
        int[] ofAHouse = {20, 1, 1, 2};
        for (int what = 0; what < ofAHouse.length; what++) {
            int w = what;
            busy.tells("houseOf(1, " + w + ")", ofAHouse[w], x -> x.houseOf(1, w));
        }
        due.is("the highest eye", Made.of("elm 0 high 99 age 99;house 0 floor 40").houseOf(0, 2), 218);
        due.is("the lowest eye", Made.of("sea 0 high 99 age 99;house 0 floor 1").houseOf(0, 2), 1);
    }

    private static void floorTakesAHouseAndAFloor() {
        due.begin("7 floor: BEYOND");
        busy.ends("floor(#, 20)", 0, 2, (x, v) -> x.floor(v, 20), 4, 9);
        busy.ends("floor(0, #)", 1, 40, (x, v) -> x.floor(0, v), 4, 4);
        eight.ends("floor(#, 20)", 0, 7, (x, v) -> x.floor(v, 20), 1, 8);
        bare.refuses("floor(0, 1) without houses", Due.BEYOND, x -> x.floor(0, 1));
        for (int floor : new int[] {1, 40}) {
            busy.answers("floor becomes " + floor, floor, x -> {
                x.floor(2, floor);
                return x.houseOf(2, 1);
            });
        }
    }

    private static void windowsTakesAHouseAndASet() {
        due.begin("8 windows: BEYOND");
        busy.ends("windows(#, 0)", 0, 2, (x, v) -> x.windows(v, 0), 3, 1);
        busy.ends("windows(1, #)", 0, 3, (x, v) -> x.windows(1, v), 2, 2);
        eight.ends("windows(#, 0)", 0, 7, (x, v) -> x.windows(v, 0), 3, 3);
        bare.refuses("windows(0, 0) without houses", Due.BEYOND, x -> x.windows(0, 0));
        for (int open = 0; open <= 3; open++) {
            int o = open;
            busy.answers("just those told: " + o, o, x -> {
                x.windows(1, o);
                return x.houseOf(1, 3);
            });
        }
    }

    private static void lawTakesAWhatAndItsNumber() {
        due.begin("9 law: BEYOND");
        busy.ends("law(#, 5)", 0, 1, (x, v) -> x.law(v, 5), 20, 13);
        busy.ends("law(0, #)", 1, 23, (x, v) -> x.law(0, v), 20, 20);
        busy.ends("law(1, #)", 0, 99, (x, v) -> x.law(1, v), 13, 13);
        bare.answers("HAZE at first", 23, x -> x.law(0, 1));
        bare.answers("RATE at first", 10, x -> x.law(1, 0));
        for (int haze : new int[] {1, 23}) {
            busy.answers("haze becomes " + haze, haze, x -> {
                x.law(0, haze);
                return x.law(0, 5);
            });
        }
        for (int rate : new int[] {0, 99}) {
            busy.answers("rate becomes " + rate, rate, x -> {
                x.law(1, rate);
                return x.law(1, 5);
            });
        }
    }

    private static void digTakesARowAndADepth() {
        due.begin("10 dig: BEYOND");
        busy.ends("dig(#, 9, 2)", 0, 9, (x, v) -> x.dig(v, 9, 2), 4, 1);
        busy.ends("dig(5, #, 2)", 5, 23, (x, v) -> x.dig(5, v, 2), 0, 16);
        busy.ends("dig(#, 23, 2)", 0, 23, (x, v) -> x.dig(v, 23, 2), 18, 1);
        busy.ends("dig(0, #, 2)", 0, 23, (x, v) -> x.dig(0, v, 2), 0, 18);
        busy.ends("dig(2, 5, #)", 1, 99, (x, v) -> x.dig(2, 5, v), 1, 4);
    }

    private static void digEndsAt0() {
        due.begin("10 dig: n less, 0 at least");
        for (int n : new int[] {1, 5, 98, 99}) {
            for (int high = Math.max(0, n - 1); high <= Math.min(99, n + 1); high++) {
                SeenLand x = new SeenLand();
                x.cell(3, 0, high);
                int left = Math.max(0, high - n);
                due.is(n + " off " + high + ": those at 0", x.dig(3, 3, n), left == 0 ? 1 : 0);
                due.is(n + " off " + high, x.cellOf(3, 1), left);
            }
        }
    }

    private static void digCountsThoseThatWere() {
        due.begin("10 dig: how many are at 0 then (those that were, too)");
        bare.answers("all were", 24, x -> x.dig(0, 23, 1));
        bare.answers("one was", 1, x -> x.dig(23, 23, 99));
        new Edges(due, () -> Made.of("land 0 to 23 high 99")).answers("none is", 0, x -> x.dig(0, 23, 98));
    }

    private static void digLeavesTheCellsBesideIt() {
        due.begin("10 dig: CELLS from one to another one");
        SeenLand x = Made.of("land 0 to 23 high 9");
        x.dig(4, 6, 2);
        int[] want = {9, 7, 7, 7, 9};
        for (int i = 0; i < want.length; i++) {
            due.is("height of " + (3 + i), x.cellOf(3 + i, 1), want[i]);
        }
    }

    private static void drainTakesADepth() {
        due.begin("11 drain: BEYOND");
        busy.ends("drain(#)", 0, 20, (x, v) -> x.drain(v), 1, 1);
    }

    private static void drainEndsAt0() {
        due.begin("11 drain: n less, 0 at least");
        for (int n : new int[] {0, 1, 19, 20}) {
            for (int high = Math.max(0, n - 1); high <= n + 1; high++) {
                SeenLand x = Made.of("water 7 high " + high);
                due.is("drain(" + n + ")", x.drain(n), 1);
                due.is(n + " off " + high, x.cellOf(7, 1), Math.max(0, high - n));
            }
        }
    }

    private static void drainTakesWaterAlone() {
        due.begin("11 drain: all WATER (not SEA) becomes FIELD (AGE stays)");
        for (int kind = 0; kind <= 6; kind++) {
            SeenLand x = new SeenLand();
            x.set(0, kind);
            x.cell(0, 0, 50);
            x.cell(0, 1, 99);
            due.is("of kind " + kind, x.drain(20), kind == 1 ? 1 : 0);
            due.is("kind then", x.cellOf(0, 0), kind == 1 ? 2 : kind);
            due.is("height then", x.cellOf(0, 1), kind == 1 ? 30 : 50);
            due.is("age then", x.cellOf(0, 2), 99);
        }
    }

    private static void drainTakesNoneAndAll() {
        due.begin("11 drain: how many CELLS");
        bare.tells("none", 0, x -> x.drain(20));
        SeenLand x = Made.of("water 0 to 23 high 30");
        due.is("all", x.drain(20), 24);
        for (int c = 0; c < 24; c++) {
            due.is("kind of " + c, x.cellOf(c, 0), 2);
            due.is("height of " + c, x.cellOf(c, 1), 10);
        }
        due.is("none is left", x.drain(20), 0);
    }
}
