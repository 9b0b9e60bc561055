/** The edges that promises 17 to 22 name: taxes. */
public final class TaxesEdgesTest {
    private static final Due due = new Due();
    private static final Edges busy = new Edges(due, Made::busy);
    private static final Edges bare = new Edges(due, SeenLand::new);
    private static final Edges eight = new Edges(due, Made::eightHouses);
    /** All is sea, and all is seen by eight houses: taxes are as great as they can be. */
    private static final Edges dearest = new Edges(due, TaxesEdgesTest::allSea);

    public static void main(String[] args) {
        taxTakesAHouse();
        taxIsGreatest();
        allIsNoneAndGreatest();
        cheapestTakesAHouse();
        cheapestIsTheLeastOfSeveral();
        widestTakesAHouse();
        widestIsFrom1To40();
        wallTakesAHouseAndACell();
        wallIsTheLeastOfSeveral();
        wallIsNone();
        rateForTakesATax();
        rateForIsLeast();
        rateForIsNone();
        due.end();
    }

    private static SeenLand allSea() {
        SeenLand x = Made.eightHouses();
        Due.read(x, "sea 0 to 23;rate 99");
        return x;
    }

    private static void taxTakesAHouse() {
        due.begin("17 tax: BEYOND");
        busy.ends("tax(#)", 0, 2, (x, v) -> x.tax(v), 24, 7);
        eight.ends("tax(#)", 0, 7, (x, v) -> x.tax(v), 23, 23);
        bare.refusesEach("tax(#) without houses", Due.BEYOND, (x, v) -> x.tax(v), -1, 0, 1);
        busy.tells("tax(1)", 3, x -> x.tax(1));
    }

    private static void taxIsGreatest() {
        due.begin("17 tax: with RATE 0 to 99");
        dearest.tells("rate 99", 4554, x -> x.tax(0));
        dearest.answers("rate 0", 0, x -> {
            x.law(1, 0);
            return x.tax(0);
        });
        dearest.answers("nothing is seen", 0, x -> {
            x.windows(0, 0);
            return x.tax(0);
        });
    }

    private static void allIsNoneAndGreatest() {
        due.begin("18 all");
        bare.tells("without houses", 0, x -> x.all());
        busy.tells("three houses", 24 + 3 + 7, x -> x.all());
        dearest.tells("eight at sea", 8 * 4554, x -> x.all());
    }

    private static void cheapestTakesAHouse() {
        due.begin("19 cheapest: BEYOND");
        busy.ends("cheapest(#)", 0, 2, (x, v) -> x.cheapest(v), 1, 1);
        eight.ends("cheapest(#)", 0, 7, (x, v) -> x.cheapest(v), 1, 1);
        bare.refuses("cheapest(0) without houses", Due.BEYOND, x -> x.cheapest(0));
        busy.tells("cheapest(2)", 1, x -> x.cheapest(2));
    }

    private static void cheapestIsTheLeastOfSeveral() {
        due.begin("19 cheapest: of several the least number counts");
        dearest.answers("with all floors alike", 1, x -> x.cheapest(7));
        dearest.answers("with rate 0", 1, x -> {
            x.law(1, 0);
            return x.cheapest(3);
        });
    }

    private static void widestTakesAHouse() {
        due.begin("20 widest: BEYOND");
        busy.ends("widest(#)", 0, 2, (x, v) -> x.widest(v), 1, 1);
        eight.ends("widest(#)", 0, 7, (x, v) -> x.widest(v), 1, 1);
        bare.refuses("widest(0) without houses", Due.BEYOND, x -> x.widest(0));
        busy.tells("widest(1)", 1, x -> x.widest(1));
    }

    /** Cell 2 is seen over a hill on cell 1 from the floor above twice the hill's height. */
    private static int widestOver(int hill, int behind) {
        SeenLand x = Made.of("house 0 floor 7;haze 2");
        x.cell(1, 0, hill);
        x.cell(2, 0, behind);
        return x.widest(0);
    }

    private static void widestIsFrom1To40() {
        due.begin("20 widest: the FLOOR (1 to 40)");
        due.is("the first", widestOver(0, 0), 1);
        due.is("the second", widestOver(1, 1), 2);
        due.is("the last but one", widestOver(19, 0), 39);
        due.is("the last", widestOver(20, 1), 40);
        due.is("one above the last: nothing is won, so the least", widestOver(20, 0), 1);
    }

    private static void wallTakesAHouseAndACell() {
        due.begin("21 wall: BEYOND");
        busy.ends("wall(#, 7)", 0, 2, (x, v) -> x.wall(v, 7), 1, 1);
        new Edges(due, () -> Due.flatWithHouse(12, 1)).ends("wall(0, #)", 0, 23, (x, v) -> x.wall(0, v), 1, 2);
        eight.ends("wall(#, 23)", 0, 7, (x, v) -> x.wall(v, 23), 2, 2);
        bare.refuses("wall(0, 0) without houses", Due.BEYOND, x -> x.wall(0, 0));
        busy.tells("wall(0, 23)", 2, x -> x.wall(0, 23));
    }

    private static void wallIsTheLeastOfSeveral() {
        due.begin("21 wall: windows (0 to 3; all four are tried): of several the least number");
        for (int open = 0; open <= 3; open++) {
            SeenLand x = Made.of("roof 0 to 11;house 12 floor 40");
            x.windows(0, open);
            due.is("its own, with windows " + open, x.wall(0, 12), 0);
            due.is("to the east, as cheap with both", x.wall(0, 20), 2);
            due.is("to the west, with windows " + open, x.wall(0, 11), 1);
            x.law(1, 0);
            due.is("with rate 0, to the west", x.wall(0, 11), 1);
            due.is("with rate 0, to the east", x.wall(0, 20), 2);
            due.is("windows stay", x.houseOf(0, 3), open);
        }
    }

    private static void wallIsNone() {
        due.begin("21 wall: NONE: with none it does");
        busy.refuses("hidden", Due.NONE, x -> x.wall(0, 6));
        busy.refuses("hidden, by a window that is walled", Due.NONE, x -> x.wall(1, 6));
        Edges haze4 = new Edges(due, () -> Made.of("house 12 floor 1;haze 4"));
        haze4.answers("4 to the west in haze 4", 1, x -> x.wall(0, 8));
        haze4.refuses("5 to the west in haze 4", Due.NONE, x -> x.wall(0, 7));
        haze4.answers("4 to the east in haze 4", 2, x -> x.wall(0, 16));
        haze4.refuses("5 to the east in haze 4", Due.NONE, x -> x.wall(0, 17));
    }

    private static void rateForTakesATax() {
        due.begin("22 rateFor: BEYOND");
        busy.refusesEach("rateFor(#)", Due.BEYOND, (x, v) -> x.rateFor(v), -1, 100000, Integer.MIN_VALUE,
            Integer.MAX_VALUE);
        busy.tells("rateFor(0)", 0, x -> x.rateFor(0));
        busy.refuses("rateFor(99999)", Due.NONE, x -> x.rateFor(99999));
        bare.refuses("rateFor(100000) without houses", Due.BEYOND, x -> x.rateFor(100000));
    }

    private static void rateForIsLeast() {
        due.begin("22 rateFor: the RATE (0 to 99), least, with which ALL TAX is v or more");
        Edges one = new Edges(due, () -> Made.of("house 0 floor 1;haze 1"));
        int[][] taxAndRate = {{0, 0}, {1, 10}, {2, 20}, {9, 90}};
        for (int[] c : taxAndRate) {
            one.answers("rateFor(" + c[0] + ")", c[1], x -> x.rateFor(c[0]));
        }
        dearest.answers("what rate 0 gives", 0, x -> x.rateFor(0));
        dearest.answers("one more than that", 1, x -> x.rateFor(1));
        dearest.answers("what rate 1 gives", 1, x -> x.rateFor(8 * 46));
        dearest.answers("one more than that", 2, x -> x.rateFor(8 * 46 + 1));
        dearest.answers("what rate 98 gives", 98, x -> x.rateFor(8 * 4508));
        dearest.answers("one more than that", 99, x -> x.rateFor(8 * 4508 + 1));
        dearest.tells("what rate 99 gives", 99, x -> x.rateFor(8 * 4554));
    }

    private static void rateForIsNone() {
        due.begin("22 rateFor: NONE");
        dearest.refuses("more than rate 99 gives", Due.NONE, x -> x.rateFor(8 * 4554 + 1));
        bare.refuses("without houses", Due.NONE, x -> x.rateFor(1));
        bare.tells("0 without houses", 0, x -> x.rateFor(0));
        new Edges(due, () -> Made.of("house 0 floor 1;haze 1")).refuses("10 by one LAND", Due.NONE, x -> x.rateFor(10));
    }
}
