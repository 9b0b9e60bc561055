/** The edges that the document's terms name: findings, cells and their tops, lines, draws. */
public final class TermsEdgesTest {
    private static final Due due = new Due();
    private static final int EVERY = (1 << 24) - 1;
    private static final Edges bare = new Edges(due, SeenLand::new);

    public static void main(String[] args) {
        findingsHaveTheirNumbers();
        zIsNoFinding();
        taxesAreCut();
        halfAnAgeIsCut();
        woodsGrowTo30();
        elmsGrowOn();
        seasAreAt0();
        otherTopsHaveNoAge();
        worthsAreOfKinds();
        agesEndAt99();
        windowsLookToTheirSide();
        hazeIsTheFarthest();
        linesMustBeBelow();
        linesAreFractions();
        ownCellIsInSight();
        ownCellIsNotTaxed();
        drawsAreInts();
        due.end();
    }

    private static void findingsHaveTheirNumbers() {
        due.begin("FINDINGS are answers below -1000000");
        bare.refuses("BEYOND", -1000001, x -> x.sight(0));
        new Edges(due, Made::eightHouses).refuses("FULL", -1000002, x -> x.house(0, 1));
        Edges busy = new Edges(due, Made::busy);
        busy.refuses("KIND", -1000003, x -> x.as(0, 1));
        bare.refuses("NONE", -1000004, x -> x.undo());
        busy.refuses("STATE", -1000005, x -> x.hidden(0, 10));
        bare.refuses("MISSING", -1000006, x -> x.as(0, 0));
        bare.refuses("SIZE", -1000007, x -> x.sheet(0, 8, -1));
    }

    private static void zIsNoFinding() {
        due.begin("What seed() and count(5) tell, z, may be any int: that is no finding");
        SeenLand x = new SeenLand();
        int before = 1;
        int[] any = {-1000000, -1000001, -1000002, -1000003, -1000004, -1000005, -1000006, -1000007, -1000008,
            Integer.MIN_VALUE, Integer.MAX_VALUE, -1, 0};
        for (int v : any) {
            due.is("seed(" + v + ")", x.seed(v), before);
            due.is("count(5)", x.count(5), v);
            before = v;
        }
        for (int which = -1; which <= 6; which++) {
            due.is("status(" + which + ")", x.status(which), 0);
        }
    }

    private static void taxesAreCut() {
        due.begin("Quotients are cut: TAX");
        SeenLand x = Made.of("house 0 floor 1;haze 1");
        int[] rates = {0, 1, 9, 10, 11, 19, 20, 89, 90, 99};
        int[] taxes = {0, 0, 0, 1, 1, 1, 2, 8, 9, 9};
        for (int i = 0; i < rates.length; i++) {
            x.law(1, rates[i]);
            due.is("tax at rate " + rates[i], x.tax(0), taxes[i]);
        }
    }

    private static int topOf(int kind, int high, int age) {
        SeenLand x = new SeenLand();
        x.set(12, kind);
        x.cell(12, 0, high);
        x.cell(12, 1, age);
        return x.cellOf(12, 3);
    }

    private static void halfAnAgeIsCut() {
        due.begin("ELM: half of all its AGE (cut)");
        int[] tops = {0, 1, 3, 4, 6, 7};
        for (int age = 0; age < tops.length; age++) {
            due.is("age " + age, topOf(6, 0, age), tops[age]);
        }
    }

    private static void woodsGrowTo30() {
        due.begin("WOOD: as a LAND, and AGE (30 at most)");
        int[] ages = {0, 1, 29, 30, 31, 99};
        int[] grown = {0, 1, 29, 30, 30, 30};
        for (int i = 0; i < ages.length; i++) {
            due.is("age " + ages[i], topOf(5, 0, ages[i]), grown[i]);
            due.is("age " + ages[i] + ", at 99", topOf(5, 99, ages[i]), 99 + grown[i]);
        }
    }

    private static void elmsGrowOn() {
        due.begin("ELM: as a WOOD, and half of all its AGE more");
        int[] ages = {29, 30, 31, 32, 98, 99};
        int[] grown = {43, 45, 45, 46, 79, 79};
        for (int i = 0; i < ages.length; i++) {
            due.is("age " + ages[i], topOf(6, 0, ages[i]), grown[i]);
            due.is("age " + ages[i] + ", at 99", topOf(6, 99, ages[i]), 99 + grown[i]);
        }
    }

    private static void seasAreAt0() {
        due.begin("SEA: 0");
        due.is("low and new", topOf(3, 0, 0), 0);
        due.is("high and old", topOf(3, 99, 99), 0);
    }

    private static void otherTopsHaveNoAge() {
        due.begin("TOP of LAND, WATER, FIELD: HEIGHT; ROOF: and 5");
        int[] kinds = {0, 1, 2, 4};
        int[] more = {0, 0, 0, 5};
        for (int i = 0; i < kinds.length; i++) {
            due.is("low and new, kind " + kinds[i], topOf(kinds[i], 0, 0), more[i]);
            due.is("high and old, kind " + kinds[i], topOf(kinds[i], 99, 99), 99 + more[i]);
        }
    }

    private static void worthsAreOfKinds() {
        due.begin("WORTH");
        int[] worths = {1, 5, 3, 20, 0, 1, 3};
        for (int kind = 0; kind < worths.length; kind++) {
            SeenLand x = new SeenLand();
            x.set(23, kind);
            due.is("new, kind " + kind, x.cellOf(23, 4), worths[kind]);
            x.cell(23, 0, 99);
            x.cell(23, 1, 99);
            due.is("high and old, kind " + kind, x.cellOf(23, 4), worths[kind]);
        }
    }

    private static void agesEndAt99() {
        due.begin("A YEAR: AGE of each CELL is one more (99 at most)");
        SeenLand x = new SeenLand();
        x.cell(0, 1, 97);
        x.cell(1, 1, 98);
        x.cell(23, 1, 99);
        x.years(1);
        int[][] then = {{0, 98}, {1, 99}, {2, 1}, {23, 99}};
        for (int[] cell : then) {
            due.is("age of " + cell[0], x.cellOf(cell[0], 2), cell[1]);
        }
        x.years(60);
        due.is("60 years on", x.cellOf(0, 2), 99);
        due.is("60 years on, from 1", x.cellOf(2, 2), 61);
    }

    private static void windowsLookToTheirSide() {
        due.begin("WEST: CELLS with lesser numbers than its own; EAST: greater ones");
        int[][] homes = {{0, 0, EVERY - 1}, {1, 1, EVERY - 3}, {22, (1 << 22) - 1, 1 << 23}, {23, (1 << 23) - 1, 0}};
        for (int[] home : homes) {
            SeenLand x = Due.flatWithHouse(home[0], 1);
            int own = 1 << home[0];
            x.windows(0, 1);
            due.is("west of " + home[0], x.sight(0), own | home[1]);
            x.windows(0, 2);
            due.is("east of " + home[0], x.sight(0), own | home[2]);
            x.windows(0, 0);
            due.is("walled at " + home[0], x.sight(0), own);
            x.windows(0, 3);
            due.is("both at " + home[0], x.sight(0), EVERY);
        }
    }

    private static void hazeIsTheFarthest() {
        due.begin("SEEN: a CELL no farther than HAZE");
        for (int haze : new int[] {1, 2, 22, 23}) {
            SeenLand west = Due.flatWithHouse(23, 1);
            SeenLand east = Due.flatWithHouse(0, 1);
            west.law(0, haze);
            east.law(0, haze);
            for (int far = 1; far <= 23; far++) {
                int isSeen = far <= haze ? 1 : 0;
                due.is(far + " to the west in haze " + haze, west.sees(0, 23 - far), isSeen);
                due.is(far + " to the east in haze " + haze, east.sees(0, far), isSeen);
            }
        }
    }

    /** Tops of two cells, so far from a house on a sea at floor 1, whose eye is at 1: is the farther one seen? */
    private static int seesOver(int near, int nearTop, int far, int farTop) {
        SeenLand x = new SeenLand();
        Due.read(x, "sea 0 to 23;house 0 floor 1");
        x.set(near, 0);
        x.cell(near, 0, nearTop);
        x.set(far, 0);
        x.cell(far, 0, farTop);
        SeenLand mirrored = new SeenLand();
        Due.read(mirrored, "sea 0 to 23;house 23 floor 1");
        mirrored.set(23 - near, 0);
        mirrored.cell(23 - near, 0, nearTop);
        mirrored.set(23 - far, 0);
        mirrored.cell(23 - far, 0, farTop);
        due.is("to the other side", mirrored.sees(0, 23 - far), x.sees(0, far));
        return x.sees(0, far);
    }

    private static void linesMustBeBelow() {
        due.begin("SEEN: for each CELL between .. is below");
        due.is("on one line that rises", seesOver(1, 3, 2, 5), 0);
        due.is("just above it", seesOver(1, 3, 2, 6), 1);
        due.is("just below it", seesOver(1, 3, 2, 4), 0);
        due.is("on one level", seesOver(1, 1, 23, 1), 0);
        due.is("just above the level", seesOver(1, 1, 23, 2), 1);
        SeenLand falling = Made.of("land 0 high 10;house 0 floor 1;land 1 high 9;land 2 high 7");
        due.is("on one line that falls", falling.sees(0, 2), 0);
        falling.cell(2, 0, 8);
        due.is("just above one that falls", falling.sees(0, 2), 1);
        SeenLand one = Made.of("land 0 high 9;house 0 floor 1;land 11 high 10");
        due.is("it is enough that one isn't below", one.sees(0, 12), 0);
        due.is("next to the house nothing is between", one.sees(0, 1), 1);
    }

    private static void linesAreFractions() {
        due.begin("SEEN: fractions, not cut");
        due.is("1 by 3 is below 1 by 2", seesOver(2, 2, 3, 2), 0);
        due.is("2 by 3 is above 1 by 2", seesOver(2, 2, 3, 3), 1);
        due.is("22 by 22 and 23 by 23", seesOver(22, 23, 23, 24), 0);
        due.is("21 by 22 and 22 by 23", seesOver(22, 22, 23, 23), 1);
        due.is("93 by 22 and 97 by 23", seesOver(22, 94, 23, 98), 0);
        due.is("93 by 22 and 98 by 23", seesOver(22, 94, 23, 99), 1);
        SeenLand falling = Made.of("land 0 high 9;house 0 floor 1;land 22 high 9;land 23 high 9");
        due.is("-1 by 22 is below -1 by 23", falling.sees(0, 23), 1);
        falling.cell(23, 0, 8);
        due.is("-1 by 22 is above -2 by 23", falling.sees(0, 23), 0);
    }

    private static void ownCellIsInSight() {
        due.begin("SIGHT: .. and its own CELL");
        for (int home : new int[] {0, 12, 23}) {
            SeenLand x = Due.flatWithHouse(home, 1);
            due.is("with open windows", x.sees(0, home), 1);
            x.windows(0, 0);
            due.is("with none", x.sees(0, home), 1);
            due.is("and nothing else", x.sight(0), 1 << home);
        }
    }

    private static void ownCellIsNotTaxed() {
        due.begin("TAX: WORTH of all of its SIGHT but its own CELL");
        SeenLand x = Made.of("sea 5;house 5 floor 1;house 5 floor 2;haze 1");
        due.is("next ones alone", x.tax(0), 2);
        x.windows(0, 0);
        due.is("walled", x.tax(0), 0);
        due.is("another house is no part of it", x.tax(1), 2);
    }

    private static int drawn(int z) {
        return (int) (z * 1103515245L + 12345L);
    }

    private static void drawsAreInts() {
        due.begin("DRAWS: z * 1103515245 + 12345 (an int), gives z >>> 8");
        for (int z : new int[] {1, 0, -1, Integer.MAX_VALUE, Integer.MIN_VALUE, 2, 1999999999}) {
            int first = drawn(z);
            int second = drawn(first);
            long struck = (first & 0xffffffffL) / 256 % 24;
            long high = (second & 0xffffffffL) / 256 % 100;
            SeenLand x = new SeenLand();
            x.seed(z);
            due.is("quake(1) from " + z, x.quake(1), (int) high);
            due.is("the cell struck from " + z, x.cellOf((int) struck, 1), (int) high);
            due.is("z behind two draws from " + z, x.count(5), second);
        }
    }
}
