import java.util.Arrays;

/** The edges that promises 33 to 38 name: years. */
public final class YearsEdgesTest {
    private static final Due due = new Due();
    private static final Edges busy = new Edges(due, Made::busy);
    private static final Edges bare = new Edges(due, SeenLand::new);
    private static final Edges eight = new Edges(due, Made::eightHouses);
    private static final Edges at939 = new Edges(due, () -> Made.busyAt(939));
    private static final Edges at940 = new Edges(due, () -> Made.busyAt(940));
    private static final Edges at999 = new Edges(due, () -> Made.busyAt(999));
    /** The elm hides cell 12 when its top is as high as the eye: in 60 years, or never in 60. */
    private static final Edges elmIn60 = elmUnderAnEye(20);
    private static final Edges elmIn62 = elmUnderAnEye(21);

    public static void main(String[] args) {
        yearsTakesANumber();
        yearsEndsWithYear999();
        aheadTakesYearsAndAWhat();
        aheadHasNoSuchHouse();
        aheadEndsWithYear999();
        lostTakesAHouseAndACell();
        lostEndsWithYear939();
        lostIsFrom0To60();
        lostIsNone();
        whenTakesAHouse();
        whenEndsWithYear939();
        whenIsFrom0To60();
        whenIsTheFirst();
        quakeTakesANumber();
        quakeMayComeAgain();
        seedTakesAnyInt();
        due.end();
    }

    private static Edges elmUnderAnEye(int high) {
        String elm = "land 10 high " + high + ";house 10 floor 40;elm 11;haze 2;roof 8 to 9;land 12 high " + (high + 39);
        return new Edges(due, () -> Made.of(elm));
    }

    private static void yearsTakesANumber() {
        due.begin("33 years: BEYOND");
        busy.ends("years(#)", 1, 60, (x, v) -> x.years(v), 5, 64);
    }

    private static void yearsEndsWithYear999() {
        due.begin("33 years: STATE: it would be above 999");
        at939.answers("60 at 939", 999, x -> x.years(60));
        at940.answers("59 at 940", 999, x -> x.years(59));
        at940.refuses("60 at 940", Due.STATE, x -> x.years(60));
        new Edges(due, () -> Made.busyAt(998)).answers("1 at 998", 999, x -> x.years(1));
        new Edges(due, () -> Made.busyAt(998)).refuses("2 at 998", Due.STATE, x -> x.years(2));
        at999.refuses("1 at 999", Due.STATE, x -> x.years(1));
        due.begin("33 years: BEYOND is asked ahead of STATE");
        at999.refusesEach("years(#) at 999", Due.BEYOND, (x, v) -> x.years(v), 0, 61, -1, Integer.MAX_VALUE);
    }

    private static void aheadTakesYearsAndAWhat() {
        due.begin("34 ahead: BEYOND");
        busy.ends("ahead(#, 0)", 0, 60, (x, v) -> x.ahead(v, 0), 34, 34);
        busy.ends("ahead(#, 1)", 0, 60, (x, v) -> x.ahead(v, 1), 24, 24);
        busy.tells("ahead(60, 0)", 34, x -> x.ahead(60, 0));
        elmIn60.answers("behind 59 years", 3 + 1, x -> x.ahead(59, 1));
        elmIn60.answers("behind 60 years", 3, x -> x.ahead(60, 1));
        elmIn60.answers("ALL TAX behind 59 years", 3 + 1, x -> x.ahead(59, 0));
        elmIn60.answers("ALL TAX behind 60 years", 3, x -> x.ahead(60, 0));
    }

    private static void aheadHasNoSuchHouse() {
        due.begin("34 ahead: BEYOND: no such HOUSE, too");
        busy.ends("ahead(5, #)", 0, 3, (x, v) -> x.ahead(5, v), 34, 7);
        eight.ends("ahead(0, #)", 0, 8, (x, v) -> x.ahead(0, v), 8 * 23, 23);
        bare.ends("ahead(60, #) without houses", 0, 0, (x, v) -> x.ahead(60, v), 0, 0);
    }

    private static void aheadEndsWithYear999() {
        due.begin("34 ahead: STATE");
        at939.answers("60 at 939", 34, x -> x.ahead(60, 0));
        at940.answers("59 at 940", 34, x -> x.ahead(59, 0));
        at940.refuses("60 at 940", Due.STATE, x -> x.ahead(60, 0));
        at999.answers("0 at 999", 24, x -> x.ahead(0, 1));
        at999.refuses("1 at 999", Due.STATE, x -> x.ahead(1, 1));
        due.begin("34 ahead: BEYOND is asked ahead of STATE");
        at999.refuses("too many years", Due.BEYOND, x -> x.ahead(61, 0));
        at999.refuses("no such HOUSE", Due.BEYOND, x -> x.ahead(60, 4));
        at999.refuses("a what below 0", Due.BEYOND, x -> x.ahead(60, -1));
    }

    private static void lostTakesAHouseAndACell() {
        due.begin("35 lost: BEYOND");
        busy.ends("lost(#, 6)", 0, 2, (x, v) -> x.lost(v, 6), 0, 0);
        busy.ends("lost(0, #)", 0, 23, (x, v) -> x.lost(0, v), 0, Due.NONE);
        eight.ends("lost(#, 0)", 0, 7, (x, v) -> x.lost(v, 0), Due.NONE, Due.NONE);
        bare.refuses("lost(0, 0) without houses", Due.BEYOND, x -> x.lost(0, 0));
        busy.tells("lost(1, 0)", 0, x -> x.lost(1, 0));
    }

    private static void lostEndsWithYear939() {
        due.begin("35 lost: STATE: YEAR is above 939");
        at939.answers("at 939", 0, x -> x.lost(0, 6));
        at939.refuses("never, at 939", Due.NONE, x -> x.lost(0, 7));
        at940.refuses("at 940, though it isn't seen now", Due.STATE, x -> x.lost(0, 6));
        due.begin("35 lost: STATE is asked ahead of NONE");
        at940.refuses("never, at 940", Due.STATE, x -> x.lost(0, 7));
        at999.refuses("never, at 999", Due.STATE, x -> x.lost(0, 7));
        due.begin("35 lost: BEYOND is asked ahead of STATE");
        at940.refuses("another house", Due.BEYOND, x -> x.lost(3, 7));
        at940.refuses("another cell", Due.BEYOND, x -> x.lost(0, 24));
    }

    private static void lostIsFrom0To60() {
        due.begin("35 lost: behind how many YEARS (0 to 60)");
        elmIn60.tells("behind 60", 60, x -> x.lost(0, 12));
        elmIn60.answers("behind 1", 1, x -> {
            x.cell(11, 1, 59);
            return x.lost(0, 12);
        });
        elmIn60.answers("behind 0", 0, x -> {
            x.cell(11, 1, 60);
            return x.lost(0, 12);
        });
        new Edges(due, () -> Made.of("wood 10;house 10 floor 1;land 11 high 1"))
            .answers("behind 0, though it is seen from a higher wood", 0, x -> x.lost(0, 12));
    }

    private static void lostIsNone() {
        due.begin("35 lost: NONE");
        elmIn62.refuses("behind 62", Due.NONE, x -> x.lost(0, 12));
        elmIn62.answers("behind 60, as it is 2 years old", 60, x -> {
            x.cell(11, 1, 2);
            return x.lost(0, 12);
        });
        elmIn62.refuses("its own", Due.NONE, x -> x.lost(0, 10));
    }

    private static void whenTakesAHouse() {
        due.begin("36 when: BEYOND");
        busy.ends("when(#)", 0, 2, (x, v) -> x.when(v), 0, 0);
        eight.ends("when(#)", 0, 7, (x, v) -> x.when(v), 0, 0);
        bare.refuses("when(0) without houses", Due.BEYOND, x -> x.when(0));
        busy.tells("when(1)", 0, x -> x.when(1));
    }

    private static void whenEndsWithYear939() {
        due.begin("36 when: STATE: YEAR is above 939");
        at939.answers("at 939", 0, x -> x.when(0));
        at940.refuses("at 940", Due.STATE, x -> x.when(0));
        at999.refuses("at 999", Due.STATE, x -> x.when(2));
        due.begin("36 when: BEYOND is asked ahead of STATE");
        at940.refuses("another house", Due.BEYOND, x -> x.when(3));
    }

    private static void whenIsFrom0To60() {
        due.begin("36 when: behind how many YEARS (0 to 60)");
        elmIn60.tells("behind 60", 60, x -> x.when(0));
        elmIn62.tells("behind 62: not in time", 0, x -> x.when(0));
        elmIn62.answers("behind 60, as it is 2 years old", 60, x -> {
            x.cell(11, 1, 2);
            return x.when(0);
        });
    }

    private static void whenIsTheFirst() {
        due.begin("36 when: the first of several");
        eight.answers("always as much", 0, x -> x.when(3));
        elmIn60.answers("from 7 years on", 7, x -> {
            x.cell(11, 1, 53);
            return x.when(0);
        });
        elmIn60.answers("with rate 0", 0, x -> {
            x.law(1, 0);
            return x.when(0);
        });
    }

    private static void quakeTakesANumber() {
        due.begin("37 quake: BEYOND");
        bare.ends("quake(#)", 1, 10, (x, v) -> x.quake(v), 32, 231);
        busy.refusesEach("quake(#)", Due.BEYOND, (x, v) -> x.quake(v), 0, 11);
    }

    /** Of ten CELLS from z = 1 on one comes again: the later HEIGHT is the one that stays. */
    private static void quakeMayComeAgain() {
        due.begin("37 quake: one behind the other, it may come again");
        int[] struck = new int[24];
        int z = 1;
        int sum = 0;
        int again = 0;
        Arrays.fill(struck, -1);
        for (int i = 0; i < 10; i++) {
            z = z * 1103515245 + 12345;
            int cell = (z >>> 8) % 24;
            z = z * 1103515245 + 12345;
            again += struck[cell] >= 0 ? 1 : 0;
            struck[cell] = (z >>> 8) % 100;
        }
        SeenLand x = new SeenLand();
        int told = x.quake(10);
        for (int c = 0; c < 24; c++) {
            due.is("height of " + c, x.cellOf(c, 1), Math.max(0, struck[c]));
            sum += Math.max(0, struck[c]);
        }
        due.is("the sum", told, sum);
        due.holds("one came again", again > 0);
        SeenLand high = Made.of("land 0 to 23 high 99");
        due.is("all HEIGHTS are in the sum", high.quake(1), 23 * 99 + 32);
    }

    private static void seedTakesAnyInt() {
        due.begin("38 seed: z becomes v");
        for (int v : new int[] {Integer.MIN_VALUE, -1, 0, 1, Integer.MAX_VALUE}) {
            busy.answers("seed(" + v + ")", 78, x -> x.seed(v));
            busy.answers("count(5) behind seed(" + v + ")", v, x -> {
                x.seed(v);
                return x.count(5);
            });
            busy.answers("status(-1) behind seed(" + v + ")", 0, x -> {
                x.seed(v);
                x.seed(v);
                return x.status(-1);
            });
        }
    }
}
