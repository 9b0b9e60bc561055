/** The edges that promises 23 to 32 name: for whose good, assessors, old returns. */
public final class GoodEdgesTest {
    private static final Due due = new Due();
    private static final int EVERY = (1 << 24) - 1;
    private static final Edges busy = new Edges(due, Made::busy);
    private static final Edges bare = new Edges(due, SeenLand::new);
    private static final Edges eight = new Edges(due, Made::eightHouses);
    private static final Edges at939 = new Edges(due, () -> Made.busyAt(939));
    private static final Edges at940 = new Edges(due, () -> Made.busyAt(940));
    private static final Edges at999 = new Edges(due, () -> Made.busyAt(999));

    public static void main(String[] args) {
        shadeTakesAHouseAKindAndYears();
        shadeEndsWithYear999();
        shadeIsTheLeastOfSeveral();
        gainsTakesACellAKindAndYears();
        gainsEndsWithYear999();
        gainsAreLess();
        plantTakesAKind();
        plantIsTheLeastOfSeveral();
        twoTakesAKind();
        twoAreUnlikeAndLeast();
        restlessIsNoneAndAll();
        walkIsNoneAndAll();
        walkIsTheLeastOfSeveral();
        blindIsNoneAndAll();
        heightsTakesACellAHouseAndATax();
        heightsAreFrom0To99();
        heightTakesACellAHouseATaxAndAWhat();
        heightIsFrom0To99();
        heightIsNone();
        whichTakesACellAndATax();
        whichIsTheFirst();
        whichIsNone();
        due.end();
    }

    private static void shadeTakesAHouseAKindAndYears() {
        due.begin("23 shade: BEYOND");
        busy.ends("shade(#, 4, 0)", 0, 2, (x, v) -> x.shade(v, 4, 0), 11, 9);
        busy.ends("shade(0, #, 0)", 0, 6, (x, v) -> x.shade(0, v, 0), 9, 0);
        busy.ends("shade(0, 4, #)", 0, 60, (x, v) -> x.shade(0, 4, v), 11, 11);
        eight.ends("shade(#, 0, 0)", 0, 7, (x, v) -> x.shade(v, 0, 0), 0, 0);
        bare.refuses("shade(0, 0, 0) without houses", Due.BEYOND, x -> x.shade(0, 0, 0));
        busy.tells("shade(1, 4, 60)", 21, x -> x.shade(1, 4, 60));
    }

    private static void shadeEndsWithYear999() {
        due.begin("23 shade: STATE: YEAR would be above 999");
        at939.answers("60 at 939", 11, x -> x.shade(0, 4, 60));
        at940.answers("59 at 940", 11, x -> x.shade(0, 4, 59));
        at940.refuses("60 at 940", Due.STATE, x -> x.shade(0, 4, 60));
        at999.answers("0 at 999", 11, x -> x.shade(0, 4, 0));
        at999.refuses("1 at 999", Due.STATE, x -> x.shade(0, 4, 1));
        due.begin("23 shade: BEYOND is asked ahead of STATE");
        at999.refuses("another house", Due.BEYOND, x -> x.shade(3, 4, 60));
        at999.refuses("another kind", Due.BEYOND, x -> x.shade(0, 7, 60));
        at999.refuses("too many years", Due.BEYOND, x -> x.shade(0, 4, 61));
    }

    private static void shadeIsTheLeastOfSeveral() {
        due.begin("23 shade: of several the least number counts");
        new Edges(due, () -> Due.flatWithHouse(0, 1)).answers("a LAND anywhere", 0, x -> x.shade(0, 0, 60));
        new Edges(due, () -> Due.flatWithHouse(22, 1)).answers("a SEA, best under it", 22, x -> x.shade(0, 3, 0));
        new Edges(due, () -> Due.flatWithHouse(22, 1)).answers("a ROOF next to it", 21, x -> x.shade(0, 4, 0));
        new Edges(due, () -> Made.of("house 12 floor 1;rate 0")).answers("with rate 0", 0, x -> x.shade(0, 4, 0));
        new Edges(due, () -> Made.of("land 12 high 90;house 12 floor 1 blind west;roof 13 to 22"))
            .answers("the last CELL", 23, x -> x.shade(0, 4, 0));
    }

    private static void gainsTakesACellAKindAndYears() {
        due.begin("24 gains: BEYOND");
        busy.ends("gains(#, 4, 0)", 0, 23, (x, v) -> x.gains(v, 4, 0), 0, 3);
        busy.ends("gains(9, #, 0)", 0, 6, (x, v) -> x.gains(9, v, 0), 5, 0);
        busy.ends("gains(11, 5, #)", 0, 60, (x, v) -> x.gains(11, 5, v), 0, 1);
        bare.tells("gains(0, 4, 0) without houses", 0, x -> x.gains(0, 4, 0));
        eight.tells("gains(23, 4, 0) of eight", 255, x -> x.gains(23, 4, 0));
    }

    private static void gainsEndsWithYear999() {
        due.begin("24 gains: STATE");
        at939.answers("60 at 939", 1, x -> x.gains(11, 5, 60));
        at940.answers("59 at 940", 1, x -> x.gains(11, 5, 59));
        at940.refuses("60 at 940", Due.STATE, x -> x.gains(11, 5, 60));
        at999.answers("0 at 999", 0, x -> x.gains(11, 5, 0));
        at999.refuses("1 at 999", Due.STATE, x -> x.gains(11, 5, 1));
        due.begin("24 gains: BEYOND is asked ahead of STATE");
        at999.refuses("another cell", Due.BEYOND, x -> x.gains(24, 5, 60));
        at999.refuses("another kind", Due.BEYOND, x -> x.gains(11, 7, 60));
        at999.refuses("too many years", Due.BEYOND, x -> x.gains(11, 5, 61));
    }

    private static void gainsAreLess() {
        due.begin("24 gains: HOUSES whose TAX would be less");
        SeenLand x = Made.of("house 0 floor 1;haze 1;rate 10;sea 1");
        due.is("as much isn't less", x.gains(1, 3, 0), 0);
        due.is("less by one kind", x.gains(1, 1, 0), 1);
        x.law(1, 0);
        due.is("0 isn't less than 0", x.gains(1, 1, 0), 0);
        SeenLand cut = Made.of("house 0 floor 1;haze 2;rate 1;water 1;land 2");
        due.is("less WORTH, but as much TAX", cut.gains(1, 2, 0), 0);
        SeenLand wood = Made.of("house 0 floor 1;wood 1");
        due.is("less than without, now", wood.gains(1, 4, 0), 1);
        due.is("less than now, but not than without then", wood.gains(1, 5, 60), 0);
    }

    private static void plantTakesAKind() {
        due.begin("25 plant: BEYOND");
        busy.ends("plant(#)", 0, 6, (x, v) -> x.plant(v), 8, 8);
        busy.tells("plant(3)", 8, x -> x.plant(3));
    }

    private static void plantIsTheLeastOfSeveral() {
        due.begin("25 plant: .. now so that ALL TAX is greatest");
        new Edges(due, () -> Made.of("house 0 floor 1;wood 1")).answers("a WOOD is low now", 0, x -> x.plant(5));
        new Edges(due, () -> Made.of("house 0 floor 1;wood 1 age 1")).answers("a new one instead", 1, x -> x.plant(5));
        due.begin("25 plant: of several the least number counts");
        bare.tells("without houses", 0, x -> x.plant(6));
        new Edges(due, () -> Due.flatWithHouse(0, 1)).answers("not its own", 1, x -> x.plant(3));
        new Edges(due, () -> Due.flatWithHouse(23, 1)).answers("the first that is seen", 0, x -> x.plant(3));
        new Edges(due, () -> Made.of("house 22 floor 1 blind west")).answers("the last CELL", 23, x -> x.plant(3));
    }

    private static void twoTakesAKind() {
        due.begin("26 two: BEYOND");
        busy.ends("two(#)", 0, 6, (x, v) -> x.two(v), 9, 1);
        busy.tells("two(3)", 607, x -> x.two(3));
    }

    private static void twoAreUnlikeAndLeast() {
        due.begin("26 two: two unlike CELLS: 100 times the lesser, and the other one; of several the least");
        bare.tells("any two", 1, x -> x.two(0));
        eight.tells("any two of eight houses", 1, x -> x.two(0));
        new Edges(due, () -> Due.flatWithHouse(0, 1)).answers("not the same twice", 102, x -> x.two(4));
        new Edges(due, () -> Due.flatWithHouse(12, 1)).answers("on both sides", 1113, x -> x.two(4));
        new Edges(due, () -> Made.of("house 22 floor 1 blind west;sea 22 to 23"))
            .answers("with one that changes nothing", 23, x -> x.two(4));
        new Edges(due, () -> Made.of("house 21 floor 1 blind west;land 21 high 90;sea 22 to 23"))
            .answers("the last two", 2223, x -> x.two(4));
    }

    private static void restlessIsNoneAndAll() {
        due.begin("27 restless: less TAX by another FLOOR (1 to 40)");
        bare.tells("without houses", 0, x -> x.restless());
        busy.tells("none of three", 0, x -> x.restless());
        String hill = "land 1 high 1;haze 2";
        SeenLand x = Made.of(hill);
        for (int h = 0; h < 8; h++) {
            x.house(0, 3 + h);
        }
        due.is("all eight", x.restless(), 8);
        x.floor(7, 2);
        due.is("one doesn't see over it", x.restless(), 7);
        x.law(1, 0);
        due.is("as much isn't less", x.restless(), 0);
    }

    private static void walkIsNoneAndAll() {
        due.begin("28 walk: the fewest HOUSES, as a set");
        bare.tells("without houses", 0, x -> x.walk());
        busy.tells("the first does it", 1, x -> x.walk());
        new Edges(due, () -> Made.of("house 7 floor 3 blind west")).tells("the only one", 1, x -> x.walk());
        eight.answers("all eight", 255, x -> {
            x.law(0, 1);
            return x.walk();
        });
        eight.answers("the last alone", 128, x -> {
            for (int h = 0; h < 7; h++) {
                x.windows(h, 1);
            }
            return x.walk();
        });
    }

    private static void walkIsTheLeastOfSeveral() {
        due.begin("28 walk: of several the least");
        eight.answers("any one", 1, x -> x.walk());
        eight.answers("of several pairs", 6, x -> {
            for (int h = 0; h < 8; h++) {
                x.windows(h, h % 2 == 0 ? 1 : 2);
            }
            return x.walk();
        });
        String four = "house 4 floor 1;house 4 floor 1;house 12 floor 1;house 12 floor 1;haze 2";
        new Edges(due, () -> Made.of(four)).answers("two of four", 5, x -> x.walk());
        new Edges(due, () -> Made.of("house 0 floor 1 blind east;house 1 floor 1 blind west"))
            .answers("one for the first CELL alone", 3, x -> x.walk());
        new Edges(due, () -> Made.of("house 23 floor 1 blind west;house 22 floor 1 blind east"))
            .answers("one for the last CELL alone", 3, x -> x.walk());
        new Edges(due, () -> Made.of("house 9 floor 1;house 11 floor 1;house 10 floor 1;haze 2"))
            .answers("fewer, not more that are less", 3, x -> x.walk());
    }

    private static void blindIsNoneAndAll() {
        due.begin("29 blind: the CELLS that no SIGHT has");
        bare.tells("all", EVERY, x -> x.blind());
        eight.tells("none", 0, x -> x.blind());
        busy.tells("seven", 127, x -> x.blind());
        new Edges(due, () -> Made.of("house 23 floor 1 blind west")).tells("all but the last", EVERY >> 1, x -> x.blind());
        new Edges(due, () -> Made.of("house 0 floor 1 blind east")).tells("all but the first", EVERY - 1, x -> x.blind());
    }

    private static void heightsTakesACellAHouseAndATax() {
        due.begin("30 heights: BEYOND");
        busy.ends("heights(#, 0, 24)", 0, 23, (x, v) -> x.heights(v, 0, 24), 100, 100);
        busy.ends("heights(0, #, 7)", 0, 2, (x, v) -> x.heights(0, v, 7), 0, 100);
        busy.ends("heights(0, 0, #)", 0, 99999, (x, v) -> x.heights(0, 0, v), 0, 0);
        eight.ends("heights(22, #, 23)", 0, 7, (x, v) -> x.heights(22, v, 23), 1, 4);
        bare.refuses("heights(0, 0, 0) without houses", Due.BEYOND, x -> x.heights(0, 0, 0));
        busy.tells("heights(3, 1, 3)", 100, x -> x.heights(3, 1, 3));
    }

    private static void heightsAreFrom0To99() {
        due.begin("30 heights: how many HEIGHTS (0 to 99)");
        Edges flat = new Edges(due, () -> Due.flatWithHouse(10, 1));
        flat.tells("0 alone", 1, x -> x.heights(12, 0, 23));
        flat.tells("all but 0", 99, x -> x.heights(12, 0, 12));
        flat.tells("none", 0, x -> x.heights(12, 0, 22));
        flat.tells("all, of its own CELL", 100, x -> x.heights(10, 0, 23));
        flat.answers("all, with rate 0", 100, x -> {
            x.law(1, 0);
            return x.heights(12, 0, 0);
        });
        Edges hill = new Edges(due, () -> Made.of("land 0 high 99;house 0 floor 1;land 2 high 98;haze 2"));
        hill.tells("all but 99", 99, x -> x.heights(1, 0, 2));
        hill.tells("99 alone", 1, x -> x.heights(1, 0, 1));
    }

    private static void heightTakesACellAHouseATaxAndAWhat() {
        due.begin("31 height: BEYOND");
        busy.ends("height(#, 0, 24, 0)", 0, 23, (x, v) -> x.height(v, 0, 24, 0), 0, 0);
        busy.ends("height(0, #, 24, 0)", 0, 2, (x, v) -> x.height(0, v, 24, 0), 0, Due.NONE);
        busy.ends("height(0, 0, #, 0)", 0, 99999, (x, v) -> x.height(0, 0, v, 0), Due.NONE, Due.NONE);
        busy.ends("height(0, 0, 24, #)", 0, 1, (x, v) -> x.height(0, 0, 24, v), 0, 99);
        eight.ends("height(22, #, 23, 1)", 0, 7, (x, v) -> x.height(22, v, 23, 1), 0, 3);
        bare.refuses("height(0, 0, 0, 0) without houses", Due.BEYOND, x -> x.height(0, 0, 0, 0));
    }

    private static void heightIsFrom0To99() {
        due.begin("31 height: the least (what 0), greatest (1) of these");
        Edges flat = new Edges(due, () -> Due.flatWithHouse(10, 1));
        flat.tells("the least is 0", 0, x -> x.height(12, 0, 23, 0));
        flat.tells("the greatest is 0", 0, x -> x.height(12, 0, 23, 1));
        flat.tells("the least is 1", 1, x -> x.height(12, 0, 12, 0));
        flat.tells("the greatest is 99", 99, x -> x.height(12, 0, 12, 1));
        Edges hill = new Edges(due, () -> Made.of("land 0 high 99;house 0 floor 1;land 2 high 98;haze 2"));
        hill.tells("the greatest is 98", 98, x -> x.height(1, 0, 2, 1));
        hill.tells("the least is 99", 99, x -> x.height(1, 0, 1, 0));
    }

    private static void heightIsNone() {
        due.begin("31 height: NONE: there are none");
        busy.refuses("the least", Due.NONE, x -> x.height(0, 0, 25, 0));
        busy.refuses("the greatest", Due.NONE, x -> x.height(0, 0, 25, 1));
        busy.refuses("of 99999", Due.NONE, x -> x.height(0, 0, 99999, 1));
        due.begin("31 height: BEYOND is asked ahead of NONE");
        busy.refuses("another what", Due.BEYOND, x -> x.height(0, 0, 25, 2));
        busy.refuses("another cell", Due.BEYOND, x -> x.height(24, 0, 25, 0));
    }

    private static void whichTakesACellAndATax() {
        due.begin("32 which: BEYOND");
        eight.ends("which(#, 23)", 0, 23, (x, v) -> x.which(v, 23), 0, 0);
        eight.ends("which(0, #)", 0, 99999, (x, v) -> x.which(0, v), Due.NONE, Due.NONE);
        busy.refusesEach("which(#, 24)", Due.BEYOND, (x, v) -> x.which(v, 24), -1, 24);
        busy.tells("which(23, 24)", 0, x -> x.which(23, 24));
        busy.tells("which(23, 0)", 1, x -> x.which(23, 0));
    }

    private static void whichIsTheFirst() {
        due.begin("32 which: the first");
        eight.answers("the last alone", 7, x -> {
            x.windows(7, 0);
            return x.which(12, 0);
        });
        eight.answers("one ahead of the last", 3, x -> {
            x.windows(3, 0);
            x.windows(7, 0);
            return x.which(12, 0);
        });
    }

    private static void whichIsNone() {
        due.begin("32 which: NONE");
        bare.refuses("without houses", Due.NONE, x -> x.which(0, 0));
        eight.refuses("no house", Due.NONE, x -> x.which(0, 22));
        busy.refuses("another tax", Due.NONE, x -> x.which(23, 13));
        bare.refuses("without houses, beyond", Due.BEYOND, x -> x.which(24, 0));
    }
}
