/** Promises 23 to 32: for whose good, assessors, old returns. */
public final class GoodTest {
    private static final Due due = new Due();
    private static final int EVERY = (1 << 24) - 1;

    public static void main(String[] args) {
        promise23();
        promise24();
        promise25();
        promise26();
        promise27();
        promise28();
        promise29();
        promise30();
        promise31();
        promise32();
        due.end();
    }

    private static void promise23() {
        due.begin("promise 23");
        SeenLand x = Due.flatWithHouse(10, 1);
        due.is("a roof", x.shade(0, 4, 0), 11);
        due.is("a wood now", x.shade(0, 5, 0), 0);
        due.is("a wood in a year", x.shade(0, 5, 1), 11);
        due.is("a sea under the house", x.shade(0, 3, 0), 10);
        due.is("kind stays", x.cellOf(11, 0), 0);
        due.is("year stays", x.count(0), 0);
        x.set(11, 5);
        due.is("what stands there grows, too", x.shade(0, 5, 1), 9);
        due.is("shade(1, 0, 0)", x.shade(1, 0, 0), Due.BEYOND);
        due.is("shade(-1, 0, 0)", x.shade(-1, 0, 0), Due.BEYOND);
        due.is("shade(0, 7, 0)", x.shade(0, 7, 0), Due.BEYOND);
        due.is("shade(0, -1, 0)", x.shade(0, -1, 0), Due.BEYOND);
        due.is("shade(0, 0, -1)", x.shade(0, 0, -1), Due.BEYOND);
        due.is("shade(0, 0, 61)", x.shade(0, 0, 61), Due.BEYOND);
        Due.goTo(x, 939);
        x.set(11, 0);
        due.is("60 years on at 939", x.shade(0, 5, 60), 11);
        x.years(1);
        due.is("60 years on at 940", x.shade(0, 5, 60), Due.STATE);
        due.is("59 years on at 940", x.shade(0, 5, 59), 11);
        due.is("beyond at 940", x.shade(0, 7, 60), Due.BEYOND);
    }

    private static void promise24() {
        due.begin("promise 24");
        SeenLand x = new SeenLand();
        due.is("no house", x.gains(11, 4, 0), 0);
        x.house(10, 1);
        x.house(12, 1);
        x.house(23, 1);
        x.windows(2, 0);
        due.is("a roof", x.gains(11, 4, 0), 3);
        due.is("a wood now", x.gains(11, 5, 0), 0);
        due.is("a wood in a year", x.gains(11, 5, 1), 3);
        due.is("a roof behind them", x.gains(13, 4, 0), 3);
        due.is("a sea", x.gains(11, 3, 0), 0);
        x.set(11, 5);
        due.is("without it, in as many years", x.gains(11, 5, 1), 0);
        due.is("gains(24, 0, 0)", x.gains(24, 0, 0), Due.BEYOND);
        due.is("gains(-1, 0, 0)", x.gains(-1, 0, 0), Due.BEYOND);
        due.is("gains(0, 7, 0)", x.gains(0, 7, 0), Due.BEYOND);
        due.is("gains(0, -1, 0)", x.gains(0, -1, 0), Due.BEYOND);
        due.is("gains(0, 0, 61)", x.gains(0, 0, 61), Due.BEYOND);
        due.is("gains(0, 0, -1)", x.gains(0, 0, -1), Due.BEYOND);
        Due.goTo(x, 999);
        due.is("a year on at 999", x.gains(0, 0, 1), Due.STATE);
        due.is("0 years on at 999", x.gains(0, 0, 0), 0);
        due.is("beyond at 999", x.gains(24, 0, 1), Due.BEYOND);
    }

    private static void promise25() {
        due.begin("promise 25");
        SeenLand x = new SeenLand();
        due.is("no house", x.plant(3), 0);
        x.house(1, 1);
        due.is("a sea", x.plant(3), 0);
        due.is("a roof, under the house", x.plant(4), 1);
        x.house(0, 1);
        due.is("a sea that both see", x.plant(3), 2);
        due.is("kind stays", x.cellOf(2, 0), 0);
        x.set(2, 5);
        due.is("now, not in a year", x.plant(0), 0);
        x.years(1);
        due.is("in that year", x.plant(0), 2);
        due.is("plant(7)", x.plant(7), Due.BEYOND);
        due.is("plant(-1)", x.plant(-1), Due.BEYOND);
    }

    private static void promise26() {
        due.begin("promise 26");
        SeenLand x = Due.flatWithHouse(10, 1);
        due.is("roofs on both sides", x.two(4), 911);
        due.is("lands", x.two(0), 1);
        due.is("seas, one under the house", x.two(3), 10);
        due.is("kind stays", x.cellOf(9, 0), 0);
        x.cell(3, 1, 5);
        x.two(4);
        due.is("age stays", x.cellOf(3, 2), 5);
        due.is("two(7)", x.two(7), Due.BEYOND);
        due.is("two(-1)", x.two(-1), Due.BEYOND);
        due.is("no house", new SeenLand().two(6), 1);
        due.is("not under the house", Due.flatWithHouse(0, 1).two(4), 102);
    }

    private static void promise27() {
        due.begin("promise 27");
        SeenLand x = Due.flatWithHouse(0, 21);
        x.cell(1, 0, 10);
        x.house(0, 1);
        x.house(0, 10);
        x.house(0, 40);
        due.is("restless()", x.restless(), 2);
        due.is("floor stays", x.houseOf(0, 1), 21);
        x.windows(3, 0);
        due.is("one that sees nothing", x.restless(), 1);
        x.law(1, 0);
        due.is("rate 0", x.restless(), 0);
        due.is("no house", new SeenLand().restless(), 0);
    }

    private static void promise28() {
        due.begin("promise 28");
        SeenLand x = new SeenLand();
        due.is("no house", x.walk(), 0);
        x.house(10, 1);
        due.is("one house", x.walk(), 1);
        x.windows(0, 1);
        x.house(11, 1);
        x.windows(1, 2);
        x.house(12, 1);
        x.windows(2, 1);
        due.is("of several pairs the least", x.walk(), 3);
        x.windows(0, 0);
        due.is("another pair", x.walk(), 6);
        x.house(0, 1);
        due.is("one does it", x.walk(), 8);
        x.house(1, 1);
        due.is("one of two does it", x.walk(), 8);
    }

    private static void promise29() {
        due.begin("promise 29");
        SeenLand x = new SeenLand();
        due.is("no house", x.blind(), EVERY);
        x.house(10, 1);
        due.is("all is seen", x.blind(), 0);
        x.windows(0, 1);
        due.is("west alone", x.blind(), EVERY - 2047);
    }

    private static void promise30() {
        due.begin("promise 30");
        SeenLand x = Due.flatWithHouse(10, 1);
        x.cell(12, 0, 3);
        due.is("all is seen", x.heights(12, 0, 23), 1);
        due.is("it hides the rest", x.heights(12, 0, 12), 99);
        due.is("nothing", x.heights(12, 0, 0), 0);
        due.is("its own cell hides nothing", x.heights(11, 0, 99999), 0);
        due.is("height stays", x.cellOf(12, 1), 3);
        due.is("heights(24, 0, 0)", x.heights(24, 0, 0), Due.BEYOND);
        due.is("heights(-1, 0, 0)", x.heights(-1, 0, 0), Due.BEYOND);
        due.is("heights(0, 1, 0)", x.heights(0, 1, 0), Due.BEYOND);
        due.is("heights(0, -1, 0)", x.heights(0, -1, 0), Due.BEYOND);
        due.is("heights(0, 0, -1)", x.heights(0, 0, -1), Due.BEYOND);
        due.is("heights(0, 0, 100000)", x.heights(0, 0, 100000), Due.BEYOND);
        x.cell(12, 0, 0);
        due.is("any height of its own", x.heights(10, 0, 23), 100);
    }

    private static void promise31() {
        due.begin("promise 31");
        SeenLand x = Due.flatWithHouse(10, 1);
        due.is("least", x.height(12, 0, 12, 0), 1);
        due.is("greatest", x.height(12, 0, 12, 1), 99);
        due.is("the only one, least", x.height(12, 0, 23, 0), 0);
        due.is("the only one, greatest", x.height(12, 0, 23, 1), 0);
        due.is("none", x.height(12, 0, 5, 0), Due.NONE);
        due.is("none, greatest", x.height(12, 0, 5, 1), Due.NONE);
        due.is("height stays", x.cellOf(12, 1), 0);
        due.is("height(24, 0, 0, 0)", x.height(24, 0, 0, 0), Due.BEYOND);
        due.is("height(-1, 0, 0, 0)", x.height(-1, 0, 0, 0), Due.BEYOND);
        due.is("height(0, 1, 0, 0)", x.height(0, 1, 0, 0), Due.BEYOND);
        due.is("height(0, -1, 0, 0)", x.height(0, -1, 0, 0), Due.BEYOND);
        due.is("height(0, 0, -1, 0)", x.height(0, 0, -1, 0), Due.BEYOND);
        due.is("height(0, 0, 100000, 0)", x.height(0, 0, 100000, 0), Due.BEYOND);
        due.is("height(0, 0, 5, 2)", x.height(0, 0, 5, 2), Due.BEYOND);
        due.is("height(0, 0, 5, -1)", x.height(0, 0, 5, -1), Due.BEYOND);
    }

    private static void promise32() {
        due.begin("promise 32");
        SeenLand x = new SeenLand();
        due.is("no house", x.which(0, 0), Due.NONE);
        x.house(10, 1);
        x.windows(0, 1);
        x.house(3, 1);
        due.is("the one with both windows", x.which(5, 23), 1);
        due.is("the one with the western one", x.which(5, 5), 0);
        due.is("none", x.which(5, 7), Due.NONE);
        due.is("the first of two", x.which(23, 23), 0);
        due.is("cell stays", x.houseOf(0, 0), 10);
        x.set(20, 4);
        x.set(19, 4);
        due.is("its eye is there then", x.which(20, 14), 0);
        due.is("which(24, 0)", x.which(24, 0), Due.BEYOND);
        due.is("which(-1, 0)", x.which(-1, 0), Due.BEYOND);
        due.is("which(0, -1)", x.which(0, -1), Due.BEYOND);
        due.is("which(0, 100000)", x.which(0, 100000), Due.BEYOND);
    }
}
