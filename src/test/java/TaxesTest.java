/** Promises 17 to 22: taxes. */
public final class TaxesTest {
    private static final Due due = new Due();

    public static void main(String[] args) {
        promise17();
        promise18();
        promise19();
        promise20();
        promise21();
        promise22();
        eightHouses();
        due.end();
    }

    private static void promise17() {
        due.begin("promise 17");
        SeenLand x = Due.flatWithHouse(10, 1);
        due.is("flat", x.tax(0), 23);
        x.law(1, 7);
        due.is("rate 7, cut", x.tax(0), 16);
        x.law(1, 0);
        due.is("rate 0", x.tax(0), 0);
        x.law(1, 10);
        x.set(11, 3);
        due.is("a sea", x.tax(0), 42);
        x.set(10, 3);
        due.is("its own does not count", x.tax(0), 42);
        x.windows(0, 1);
        due.is("west alone", x.tax(0), 10);
        x.windows(0, 0);
        due.is("walled", x.tax(0), 0);
        due.is("tax(1)", x.tax(1), Due.BEYOND);
        due.is("tax(-1)", x.tax(-1), Due.BEYOND);
    }

    private static void promise18() {
        due.begin("promise 18");
        SeenLand x = new SeenLand();
        due.is("without houses", x.all(), 0);
        x.house(10, 1);
        x.house(11, 1);
        due.is("two houses", x.all(), 46);
        x.law(1, 9);
        due.is("each is cut by itself", x.all(), 40);
    }

    /** A hill of height 10 next to the house: floor 11 sees cell 23 over it, floor 21 cell 2, too. */
    private static SeenLand byAHill(int floor) {
        SeenLand x = Due.flatWithHouse(0, floor);
        x.cell(1, 0, 10);
        return x;
    }

    private static void promise19() {
        due.begin("promise 19");
        SeenLand x = byAHill(30);
        due.is("cheapest(0)", x.cheapest(0), 1);
        due.is("floor stays", x.houseOf(0, 1), 30);
        due.is("cheapest(1)", x.cheapest(1), Due.BEYOND);
        due.is("cheapest(-1)", x.cheapest(-1), Due.BEYOND);
        due.is("flat", Due.flatWithHouse(5, 40).cheapest(0), 1);
    }

    private static void promise20() {
        due.begin("promise 20");
        SeenLand x = byAHill(30);
        due.is("widest(0)", x.widest(0), 21);
        due.is("floor stays", x.houseOf(0, 1), 30);
        x.law(0, 1);
        due.is("in haze", x.widest(0), 1);
        x.law(0, 23);
        x.cell(1, 0, 20);
        x.cell(2, 0, 1);
        due.is("the highest floor", x.widest(0), 40);
        x.cell(1, 0, 99);
        due.is("a hill too high", x.widest(0), 1);
        due.is("widest(1)", x.widest(1), Due.BEYOND);
        due.is("widest(-1)", x.widest(-1), Due.BEYOND);
    }

    private static void promise21() {
        due.begin("promise 21");
        SeenLand x = Due.flatWithHouse(10, 1);
        x.windows(0, 0);
        due.is("to the west", x.wall(0, 5), 1);
        due.is("to the east", x.wall(0, 15), 2);
        due.is("its own", x.wall(0, 10), 0);
        due.is("windows stay", x.houseOf(0, 3), 0);
        x.law(1, 0);
        due.is("to the west, rate 0", x.wall(0, 5), 1);
        due.is("to the east, rate 0", x.wall(0, 15), 2);
        x.cell(12, 0, 1);
        due.is("it is hidden", x.wall(0, 15), Due.NONE);
        x.law(0, 4);
        due.is("it is too far", x.wall(0, 5), Due.NONE);
        due.is("wall(1, 0)", x.wall(1, 0), Due.BEYOND);
        due.is("wall(-1, 0)", x.wall(-1, 0), Due.BEYOND);
        due.is("wall(0, 24)", x.wall(0, 24), Due.BEYOND);
        due.is("wall(0, -1)", x.wall(0, -1), Due.BEYOND);
    }

    private static void promise22() {
        due.begin("promise 22");
        SeenLand x = new SeenLand();
        due.is("no house, 0", x.rateFor(0), 0);
        due.is("no house, 1", x.rateFor(1), Due.NONE);
        x.house(10, 1);
        due.is("rateFor(0)", x.rateFor(0), 0);
        due.is("rateFor(2)", x.rateFor(2), 1);
        due.is("rateFor(3)", x.rateFor(3), 2);
        due.is("rateFor(227)", x.rateFor(227), 99);
        due.is("rateFor(228)", x.rateFor(228), Due.NONE);
        due.is("rateFor(99999)", x.rateFor(99999), Due.NONE);
        due.is("rateFor(-1)", x.rateFor(-1), Due.BEYOND);
        due.is("rateFor(100000)", x.rateFor(100000), Due.BEYOND);
        x.house(11, 1);
        due.is("each is cut by itself", x.rateFor(41), 10);
        due.is("rate stays", x.law(1, 10), 10);
    }

    /** As many houses as there can be: no row is left by the last one. */
    private static void eightHouses() {
        due.begin("promises 18 to 29, with eight houses");
        SeenLand x = new SeenLand();
        for (int h = 0; h < 8; h++) {
            x.house(3 * h, 1);
            x.windows(h, 2);
        }
        int worth = 23 + 20 + 17 + 14 + 11 + 8 + 5 + 2;
        due.is("all()", x.all(), worth);
        due.is("rateFor()", x.rateFor(worth), 10);
        due.is("seenBy(23)", x.seenBy(23), 255);
        due.is("neighbours(0)", x.neighbours(0), 254);
        due.is("gains(22, 4, 0)", x.gains(22, 4, 0), 255);
        due.is("restless()", x.restless(), 0);
        due.is("walk()", x.walk(), 1);
        due.is("blind()", x.blind(), 0);
        due.is("which(23, 0)", x.which(23, 0), 0);
        due.is("which(23, 5)", x.which(23, 5), Due.NONE);
        due.is("ahead(1, 8)", x.ahead(1, 8), 2);
        due.is("ahead(1, 9)", x.ahead(1, 9), Due.BEYOND);
        x.law(0, 1);
        due.is("walk() in haze", x.walk(), 255);
        due.is("count(3) in haze", x.count(3), 16);
    }
}
