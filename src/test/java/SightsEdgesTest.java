/** The edges that promises 12 to 16 name: sights. */
public final class SightsEdgesTest {
    private static final Due due = new Due();
    private static final Edges busy = new Edges(due, Made::busy);
    private static final Edges bare = new Edges(due, SeenLand::new);
    private static final Edges eight = new Edges(due, Made::eightHouses);

    public static void main(String[] args) {
        sightTakesAHouse();
        seesTakesAHouseAndACell();
        seenByTakesACell();
        seenByNoneAndByAll();
        neighboursTakesAHouse();
        neighboursLeavesOutItself();
        hiddenTakesAHouseAndACell();
        hiddenAsksForAnOpenWindow();
        hiddenAsksForAnotherCell();
        hiddenAsksForHaze();
        hiddenIsNoneIfSeen();
        hiddenByTheNearest();
        due.end();
    }

    private static void sightTakesAHouse() {
        due.begin("12 sight: BEYOND");
        busy.ends("sight(#)", 0, 2, (x, v) -> x.sight(v), 0xffff80, 0x780);
        eight.ends("sight(#)", 0, 7, (x, v) -> x.sight(v), 0xffffff, 0xffffff);
        bare.refusesEach("sight(#) without houses", Due.BEYOND, (x, v) -> x.sight(v), -1, 0, 1);
        busy.tells("sight(1)", 0xf00000, x -> x.sight(1));
    }

    private static void seesTakesAHouseAndACell() {
        due.begin("13 sees: BEYOND");
        busy.ends("sees(#, 7)", 0, 2, (x, v) -> x.sees(v, 7), 1, 1);
        busy.ends("sees(0, #)", 0, 23, (x, v) -> x.sees(0, v), 0, 1);
        eight.ends("sees(#, 0)", 0, 7, (x, v) -> x.sees(v, 0), 1, 1);
        bare.refuses("sees(0, 0) without houses", Due.BEYOND, x -> x.sees(0, 0));
        busy.tells("sees(0, 6)", 0, x -> x.sees(0, 6));
        busy.tells("sees(0, 10), its own", 1, x -> x.sees(0, 10));
    }

    private static void seenByTakesACell() {
        due.begin("14 seenBy: BEYOND");
        busy.ends("seenBy(#)", 0, 23, (x, v) -> x.seenBy(v), 0, 3);
        busy.tells("seenBy(7)", 5, x -> x.seenBy(7));
    }

    private static void seenByNoneAndByAll() {
        due.begin("14 seenBy: as a set");
        bare.ends("seenBy(#) without houses", 0, 23, (x, v) -> x.seenBy(v), 0, 0);
        eight.ends("seenBy(#) by eight", 0, 23, (x, v) -> x.seenBy(v), 255, 255);
        eight.answers("by the last house alone", 128, x -> {
            for (int h = 0; h < 8; h++) {
                x.windows(h, 0);
            }
            return x.seenBy(21);
        });
    }

    private static void neighboursTakesAHouse() {
        due.begin("15 neighbours: BEYOND");
        busy.ends("neighbours(#)", 0, 2, (x, v) -> x.neighbours(v), 6, 1);
        eight.ends("neighbours(#)", 0, 7, (x, v) -> x.neighbours(v), 254, 127);
        bare.refuses("neighbours(0) without houses", Due.BEYOND, x -> x.neighbours(0));
        busy.tells("neighbours(1)", 0, x -> x.neighbours(1));
    }

    private static void neighboursLeavesOutItself() {
        due.begin("15 neighbours: (not this HOUSE itself)");
        SeenLand x = Due.flatWithHouse(5, 1);
        due.is("alone", x.neighbours(0), 0);
        x.house(5, 1);
        x.windows(0, 0);
        due.is("one on the same CELL, windows walled", x.neighbours(0), 2);
        due.is("from the other one", x.neighbours(1), 1);
    }

    private static void hiddenTakesAHouseAndACell() {
        due.begin("16 hidden: BEYOND");
        busy.ends("hidden(#, 6)", 0, 2, (x, v) -> x.hidden(v, 6), 7, 7);
        new Edges(due, () -> Made.of("roof 1;roof 22;house 12 floor 1"))
            .ends("hidden(0, #)", 0, 23, (x, v) -> x.hidden(0, v), 1, 22);
        bare.refuses("hidden(0, 0) without houses", Due.BEYOND, x -> x.hidden(0, 0));
        busy.tells("hidden(0, 6)", 7, x -> x.hidden(0, 6));
    }

    private static void hiddenAsksForAnOpenWindow() {
        due.begin("16 hidden: STATE: that window isn't OPEN");
        busy.refuses("to the west of one that looks east", Due.STATE, x -> x.hidden(1, 0));
        busy.refuses("next to it", Due.STATE, x -> x.hidden(1, 19));
        busy.refuses("to the east of one that looks west", Due.STATE, x -> x.hidden(2, 11));
        Edges walled = new Edges(due, () -> Made.of("roof 11;roof 13;house 12 floor 1"));
        int[][] openAndCell = {{0, 5}, {2, 5}, {0, 20}, {1, 20}};
        for (int[] c : openAndCell) {
            SeenLand x = Made.of("roof 11;roof 13;house 12 floor 1");
            x.windows(0, c[0]);
            due.is("windows " + c[0] + ", cell " + c[1], x.hidden(0, c[1]), Due.STATE);
        }
        walled.answers("west is open", 11, x -> {
            x.windows(0, 1);
            return x.hidden(0, 5);
        });
        walled.answers("east is open", 13, x -> {
            x.windows(0, 2);
            return x.hidden(0, 20);
        });
    }

    private static void hiddenAsksForAnotherCell() {
        due.begin("16 hidden: STATE: .. or the CELL is its own");
        busy.refuses("its own", Due.STATE, x -> x.hidden(0, 10));
        busy.refuses("its own, though it is in SIGHT", Due.STATE, x -> x.hidden(1, 20));
        new Edges(due, () -> Due.flatWithHouse(0, 1)).refuses("at 0", Due.STATE, x -> x.hidden(0, 0));
        new Edges(due, () -> Due.flatWithHouse(23, 1)).refuses("at 23", Due.STATE, x -> x.hidden(0, 23));
    }

    private static void hiddenAsksForHaze() {
        due.begin("16 hidden: STATE: .. or farther than HAZE");
        Edges haze4 = new Edges(due, () -> Made.of("roof 11;roof 13;house 12 floor 1;haze 4"));
        haze4.answers("4 to the west", 11, x -> x.hidden(0, 8));
        haze4.refuses("5 to the west", Due.STATE, x -> x.hidden(0, 7));
        haze4.answers("4 to the east", 13, x -> x.hidden(0, 16));
        haze4.refuses("5 to the east", Due.STATE, x -> x.hidden(0, 17));
        Edges haze1 = new Edges(due, () -> Made.of("house 12 floor 1;haze 1"));
        haze1.refuses("1 in haze 1: it is seen", Due.NONE, x -> x.hidden(0, 13));
        haze1.refuses("2 in haze 1, though nothing hides it", Due.STATE, x -> x.hidden(0, 14));
        new Edges(due, () -> Made.of("roof 22;house 0 floor 1")).answers("23 in haze 23", 22, x -> x.hidden(0, 23));
        new Edges(due, () -> Made.of("roof 22;house 0 floor 1;haze 22"))
            .refuses("23 in haze 22", Due.STATE, x -> x.hidden(0, 23));
    }

    private static void hiddenIsNoneIfSeen() {
        due.begin("16 hidden: NONE: it is SEEN");
        busy.refuses("over the field", Due.NONE, x -> x.hidden(0, 8));
        busy.refuses("next to it", Due.NONE, x -> x.hidden(0, 9));
        busy.refuses("the last cell", Due.NONE, x -> x.hidden(0, 23));
        Edges stairs = new Edges(due, () -> Made.of("house 0 floor 1;land 1 high 3;land 2 high 5;land 3 high 8"));
        stairs.answers("on the line of the one between", 1, x -> x.hidden(0, 2));
        stairs.refuses("above the lines of both", Due.NONE, x -> x.hidden(0, 3));
    }

    private static void hiddenByTheNearest() {
        due.begin("16 hidden: of those between the nearest to the HOUSE that does");
        String hills = "land 2 high 1;land 4 high 9;land 6 high 20;house 0 floor 1;land 8 high 8";
        new Edges(due, () -> Made.of(hills)).answers("all three do", 2, x -> x.hidden(0, 23));
        new Edges(due, () -> Made.of(hills)).answers("the first doesn't", 4, x -> x.hidden(0, 8));
        new Edges(due, () -> Made.of(hills)).answers("the third alone", 6, x -> {
            x.cell(8, 0, 20);
            return x.hidden(0, 8);
        });
        String mirrored = "land 21 high 1;land 19 high 9;land 17 high 20;house 23 floor 1;land 15 high 8";
        new Edges(due, () -> Made.of(mirrored)).answers("to the west, all three", 21, x -> x.hidden(0, 0));
        new Edges(due, () -> Made.of(mirrored)).answers("to the west, not the first", 19, x -> x.hidden(0, 15));
    }
}
