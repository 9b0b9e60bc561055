/** The edges that promises 42 to 48 name: spots, sheets. */
public final class SheetsEdgesTest {
    private static final Due due = new Due();
    private static final int LEAST = Integer.MIN_VALUE;
    private static final int GREATEST = Integer.MAX_VALUE;
    private static final Edges busy = new Edges(due, Made::busy);
    private static final Edges bare = new Edges(due, SeenLand::new);
    private static final Edges at939 = new Edges(due, () -> judgedAt(939));
    private static final Edges at940 = new Edges(due, () -> judgedAt(940));

    public static void main(String[] args) {
        holdTakesASpotAndACellOrNothing();
        asTakesASpotAndAKind();
        asIsMissing();
        asIsOfAKindOrUnderIt();
        sheetTakesANumberAndBits();
        sheetHasUpTo40Numbers();
        sheetHasASizeOf0OrMore();
        sheetAsksInItsOrder();
        sheetIsAll0();
        sheetMayBeMissing();
        writeTakesASheet();
        writeTakesANumberOfIt();
        writeIsMissing();
        writeKeepsTheLowestBits();
        numbersHaveTheirSign();
        copyTakesTwoSheets();
        copyIsMissing();
        copyIsOfAsManyBits();
        copyTakesRunsThatAreThere();
        copyTakesNothingBelow0();
        copyIsAsTheyAllWere();
        loadTakesASheetAndACell();
        loadIsMissing();
        loadEndsAtTheFirstThatIsNoHeight();
        loadEndsAtTheLastCell();
        judgeTakesASheetAndYears();
        judgeIsMissing();
        judgeEndsWithYear999();
        judgeIsBehindYears();
        judgeCountsFromTheFirstOn();
        judgeAsksForAsManyAsHouses();
        due.end();
    }

    private static SeenLand judgedAt(int year) {
        SeenLand x = Made.busyAt(year);
        Made.writeSheet(x, 2, 16, 24, 3, 7);
        return x;
    }

    private static void holdTakesASpotAndACellOrNothing() {
        due.begin("42 hold: BEYOND");
        busy.ends("hold(#, 5)", 0, 9, (x, v) -> x.hold(v, 5), 1, 1);
        busy.ends("hold(0, #), nothing is -1", -1, 23, (x, v) -> x.hold(0, v), 1, 1);
        for (int spot : new int[] {0, 9}) {
            for (int cell : new int[] {0, 23}) {
                bare.answers("spot " + spot + " holds " + cell, cell, x -> {
                    x.hold(spot, cell);
                    return x.as(spot, 0);
                });
            }
            bare.answers("spot " + spot + " holds nothing", Due.MISSING, x -> {
                x.hold(spot, 0);
                x.hold(spot, -1);
                return x.as(spot, 0);
            });
        }
        bare.answers("nothing, where nothing was", 1, x -> x.hold(9, -1));
    }

    private static void asTakesASpotAndAKind() {
        due.begin("43 as: BEYOND");
        Edges held = new Edges(due, SheetsEdgesTest::allSpotsHoldElms);
        held.ends("as(#, 6)", 0, 9, (x, v) -> x.as(v, 6), 14, 23);
        held.ends("as(9, #)", 0, 6, (x, v) -> x.as(9, v), 23, 23);
        held.tells("as(9, 5)", 23, x -> x.as(9, 5));
        due.begin("43 as: BEYOND is asked ahead of MISSING and KIND");
        busy.refusesEach("as(1, #), which holds nothing", Due.BEYOND, (x, v) -> x.as(1, v), -1, 7, LEAST, GREATEST);
        busy.refusesEach("as(0, #), which is a WOOD", Due.BEYOND, (x, v) -> x.as(0, v), -1, 7, LEAST, GREATEST);
    }

    private static SeenLand allSpotsHoldElms() {
        SeenLand x = Made.of("elm 0 to 23");
        for (int spot = 0; spot < 10; spot++) {
            x.hold(spot, 14 + spot);
        }
        return x;
    }

    private static void asIsMissing() {
        due.begin("43 as: MISSING: it holds nothing");
        for (int kind = 0; kind <= 6; kind++) {
            int k = kind;
            busy.refuses("as(1, " + k + ")", Due.MISSING, x -> x.as(1, k));
        }
    }

    private static void asIsOfAKindOrUnderIt() {
        due.begin("43 as: KIND: what is on it isn't of that kind, nor of one under it");
        String[] ups = {"0", "01", "02", "013", "04", "05", "056"};
        for (int kind = 0; kind <= 6; kind++) {
            int k = kind;
            Edges held = new Edges(due, () -> {
                SeenLand x = new SeenLand();
                x.set(23, k);
                x.hold(5, 23);
                return x;
            });
            for (int asked = 0; asked <= 6; asked++) {
                int a = asked;
                if (ups[kind].indexOf('0' + asked) >= 0) {
                    held.tells("kind " + kind + " as " + asked, 23, x -> x.as(5, a));
                } else {
                    held.refuses("kind " + kind + " as " + asked, Due.KIND, x -> x.as(5, a));
                }
            }
        }
    }

    private static void sheetTakesANumberAndBits() {
        due.begin("44 sheet: BEYOND: no such sheet, other bits");
        busy.ends("sheet(#, 8, 5)", 0, 3, (x, v) -> x.sheet(v, 8, 5), 5, 5);
        for (int bits : new int[] {8, 16, 32}) {
            bare.answers("bits " + bits, 5, x -> x.sheet(0, bits, 5));
        }
        bare.answers("bits 0", 0, x -> x.sheet(0, 0, 5));
        busy.refusesEach("sheet(1, #, 5)", Due.BEYOND, (x, v) -> x.sheet(1, v, 5), -8, -1, 1, 7, 9, 15, 17, 24, 31, 33, 64,
            LEAST, GREATEST);
    }

    private static void sheetHasUpTo40Numbers() {
        due.begin("44 sheet: BEYOND: n is above 40 (also with bits 0)");
        for (int bits : new int[] {8, 16, 32}) {
            busy.answers("0 numbers of " + bits + " bits", 0, x -> x.sheet(3, bits, 0));
            busy.answers("40 numbers of " + bits + " bits", 40, x -> x.sheet(3, bits, 40));
            busy.refusesEach("# numbers of " + bits + " bits", Due.BEYOND, (x, v) -> x.sheet(1, bits, v), 41, 42, GREATEST);
        }
        busy.answers("40 and bits 0", 0, x -> x.sheet(1, 0, 40));
        busy.refusesEach("# and bits 0", Due.BEYOND, (x, v) -> x.sheet(1, 0, v), 41, 42, GREATEST);
    }

    private static void sheetHasASizeOf0OrMore() {
        due.begin("44 sheet: SIZE: n is below 0 (also with bits 0)");
        for (int bits : new int[] {0, 8, 16, 32}) {
            busy.refusesEach("# numbers of " + bits + " bits", Due.SIZE, (x, v) -> x.sheet(1, bits, v), -1, -2, LEAST);
        }
        busy.answers("0 and bits 0", 0, x -> x.sheet(1, 0, 0));
    }

    private static void sheetAsksInItsOrder() {
        due.begin("44 sheet: BEYOND (sheet, bits) is asked ahead of SIZE");
        busy.refusesEach("sheet(#, 8, -1)", Due.BEYOND, (x, v) -> x.sheet(v, 8, -1), -1, 4);
        busy.refusesEach("sheet(0, #, -1)", Due.BEYOND, (x, v) -> x.sheet(0, v, -1), -1, 1, 33);
    }

    private static void sheetIsAll0() {
        due.begin("44 sheet: n numbers, all 0");
        SeenLand x = Made.of("land 0 to 23 high 50");
        Made.writeSheet(x, 3, 8, 9, 9, 9, 9);
        x.sheet(3, 8, 2);
        x.sheet(3, 16, 40);
        due.is("all of them are heights", x.load(3, 0), 24);
        for (int c = 0; c < 24; c++) {
            due.is("height of " + c, x.cellOf(c, 1), 0);
        }
    }

    private static void sheetMayBeMissing() {
        due.begin("44 sheet: bits 0: it is MISSING: n (0 if it is MISSING)");
        for (int s = 0; s < 4; s++) {
            SeenLand x = new SeenLand();
            due.is("at first", x.load(s, 0), Due.MISSING);
            due.is("40 numbers", x.sheet(s, 32, 40), 40);
            due.is("there now", x.load(s, 0), 24);
            due.is("bits 0", x.sheet(s, 0, 40), 0);
            due.is("missing then", x.load(s, 0), Due.MISSING);
            due.is("bits 0 again", x.sheet(s, 0, 7), 0);
            due.is("one of no numbers", x.sheet(s, 32, 0), 0);
            due.is("that isn't missing", x.load(s, 0), 0);
        }
    }

    private static void writeTakesASheet() {
        due.begin("45 write: BEYOND: no such sheet");
        Edges four = new Edges(due, SheetsEdgesTest::fourSheets);
        four.ends("write(#, 0, 5)", 0, 3, (x, v) -> x.write(v, 0, 5), 1, 1);
        bare.refusesEach("write(#, 0, 5), all missing", Due.BEYOND, (x, v) -> x.write(v, 0, 5), -1, 4, LEAST, GREATEST);
    }

    private static SeenLand fourSheets() {
        SeenLand x = Made.busy();
        for (int s = 0; s < 4; s++) {
            Made.writeSheet(x, s, 8, 10 + s, 20 + s);
        }
        return x;
    }

    private static void writeTakesANumberOfIt() {
        due.begin("45 write: BEYOND: no such number");
        busy.ends("write(1, #, 7)", 0, 4, (x, v) -> x.write(1, v, 7), 1, 1);
        new Edges(due, () -> {
            SeenLand x = new SeenLand();
            x.sheet(3, 32, 40);
            return x;
        }).ends("write(3, #, 7), of 40", 0, 39, (x, v) -> x.write(3, v, 7), 1, 1);
        new Edges(due, () -> {
            SeenLand x = new SeenLand();
            x.sheet(2, 32, 0);
            return x;
        }).refusesEach("write(2, #, 7), of none", Due.BEYOND, (x, v) -> x.write(2, v, 7), -1, 0, 1, LEAST, GREATEST);
    }

    private static void writeIsMissing() {
        due.begin("45 write: MISSING, asked ahead of BEYOND: no such number");
        busy.refusesEach("write(3, #, 7)", Due.MISSING, (x, v) -> x.write(3, v, 7), 0, -1, 40, LEAST, GREATEST);
    }

    /** What a number is when it comes back: as a HEIGHT if it is one, else -1. */
    private static int kept(int bits, int v) {
        SeenLand x = new SeenLand();
        x.sheet(0, bits, 1);
        due.is("write(0, 0, " + v + ")", x.write(0, 0, v), 1);
        return x.load(0, 5) == 1 ? x.cellOf(5, 1) : -1;
    }

    private static void writeKeepsTheLowestBits() {
        due.begin("45 write: v (its lowest bits)");
        int[][] rows = {{8, 99, 99}, {8, 256, 0}, {8, 256 + 99, 99}, {8, -256, 0}, {8, -157, 99}, {8, 255, -1}, {8, -1, -1},
            {8, LEAST, 0}, {8, GREATEST, -1}, {8, LEAST + 5, 5}, {16, 99, 99}, {16, 256 + 99, -1}, {16, 65536, 0},
            {16, 65536 + 99, 99}, {16, -65536 + 99, 99}, {16, 65535, -1}, {16, LEAST, 0}, {16, GREATEST, -1},
            {16, LEAST + 5, 5}, {32, 99, 99}, {32, 256 + 99, -1}, {32, 65536, -1}, {32, 65536 + 99, -1}, {32, LEAST, -1},
            {32, GREATEST, -1}, {32, LEAST + 5, -1}, {32, -1, -1}, {32, 0, 0}};
        for (int[] row : rows) {
            due.is(row[1] + " in " + row[0] + " bits", kept(row[0], row[1]), row[2]);
        }
    }

    /** A house whose TAX is told by lands of known WORTH, and a sheet that has that number, as told by the reader. */
    private static int judgedTax(String lands, int tax, int bits) {
        SeenLand x = Made.of("house 0 floor 1;" + lands);
        due.is("tax with " + lands, x.tax(0), tax);
        Made.writeSheet(x, 0, bits, tax);
        return x.judge(0, 0);
    }

    private static void numbersHaveTheirSign() {
        due.begin("SHEETS: told with their sign: of 8 bits 255 is -1");
        String[] lands = {"sea 1 to 6;water 7;haze 9", "sea 1 to 6;water 7;haze 10", "sea 1 to 12;water 13 to 15;haze 15",
            "sea 1 to 12;water 13 to 15;haze 16"};
        int[] taxes = {127, 128, 255, 256};
        for (int i = 0; i < taxes.length; i++) {
            due.is(taxes[i] + " in 8 bits", judgedTax(lands[i], taxes[i], 8), taxes[i] <= 127 ? 0 : 1);
            due.is(taxes[i] + " in 16 bits", judgedTax(lands[i], taxes[i], 16), 0);
            due.is(taxes[i] + " in 32 bits", judgedTax(lands[i], taxes[i], 32), 0);
        }
    }

    private static void copyTakesTwoSheets() {
        due.begin("46 copy: BEYOND: no such sheet (either)");
        Edges four = new Edges(due, SheetsEdgesTest::fourSheets);
        four.ends("copy(#, 0, 1, 0, 2)", 0, 3, (x, v) -> x.copy(v, 0, 1, 0, 2), 2, 2);
        four.ends("copy(1, 0, #, 0, 2)", 0, 3, (x, v) -> x.copy(1, 0, v, 0, 2), 2, 2);
        due.begin("46 copy: BEYOND (no such sheet) is asked ahead of MISSING");
        bare.refuses("the first, the second missing", Due.BEYOND, x -> x.copy(4, 0, 0, 0, 0));
        bare.refuses("the second, the first missing", Due.BEYOND, x -> x.copy(0, 0, 4, 0, 0));
        bare.refuses("the second, below", Due.BEYOND, x -> x.copy(0, 0, -1, 0, 0));
    }

    private static void copyIsMissing() {
        due.begin("46 copy: MISSING: one is; asked ahead of BEYOND");
        busy.refuses("the first", Due.MISSING, x -> x.copy(3, 0, 0, 0, 1));
        busy.refuses("the second", Due.MISSING, x -> x.copy(0, 0, 3, 0, 1));
        busy.refuses("both", Due.MISSING, x -> x.copy(3, 0, 3, 0, 0));
        busy.refuses("with no numbers", Due.MISSING, x -> x.copy(0, 0, 3, 0, 0));
        busy.refuses("with n below 0", Due.MISSING, x -> x.copy(0, 0, 3, 0, -1));
        busy.refuses("with from and to beyond", Due.MISSING, x -> x.copy(3, GREATEST, 0, LEAST, 1));
    }

    private static void copyIsOfAsManyBits() {
        due.begin("46 copy: KIND: they are not of as many bits; asked ahead of BEYOND");
        busy.refuses("8 to 16", Due.KIND, x -> x.copy(0, 0, 2, 0, 1));
        busy.refuses("16 to 8", Due.KIND, x -> x.copy(2, 0, 0, 0, 1));
        busy.refuses("with no numbers", Due.KIND, x -> x.copy(2, 0, 0, 0, 0));
        busy.refuses("with n below 0", Due.KIND, x -> x.copy(2, 0, 0, 0, -1));
        busy.refuses("with too many", Due.KIND, x -> x.copy(2, 0, 0, 0, 41));
        busy.answers("16 to 32", Due.KIND, x -> {
            x.sheet(3, 32, 4);
            return x.copy(2, 0, 3, 0, 4);
        });
        busy.answers("16 to 16", 4, x -> {
            x.sheet(3, 16, 4);
            return x.copy(2, 0, 3, 0, 4);
        });
    }

    private static void copyTakesRunsThatAreThere() {
        due.begin("46 copy: BEYOND: one has not so many");
        busy.answers("all three", 3, x -> x.copy(0, 0, 1, 0, 3));
        busy.answers("to its end", 3, x -> x.copy(0, 0, 1, 2, 3));
        busy.answers("from its end", 1, x -> x.copy(0, 2, 1, 4, 1));
        busy.tells("none, behind both ends", 0, x -> x.copy(0, 3, 1, 5, 0));
        busy.refuses("four of three", Due.BEYOND, x -> x.copy(0, 0, 1, 0, 4));
        busy.refuses("three to four", Due.BEYOND, x -> x.copy(1, 0, 0, 0, 4));
        busy.refuses("three, one too late", Due.BEYOND, x -> x.copy(0, 1, 1, 0, 3));
        busy.refuses("three to its end, one too late", Due.BEYOND, x -> x.copy(0, 0, 1, 3, 3));
        busy.refuses("none, but from beyond", Due.BEYOND, x -> x.copy(0, 4, 1, 0, 0));
        busy.refuses("none, but to beyond", Due.BEYOND, x -> x.copy(0, 0, 1, 6, 0));
        busy.refusesEach("copy(0, #, 1, 0, 1)", Due.BEYOND, (x, v) -> x.copy(0, v, 1, 0, 1), 3, GREATEST);
        busy.refusesEach("copy(0, 0, 1, #, 1)", Due.BEYOND, (x, v) -> x.copy(0, 0, 1, v, 1), 5, GREATEST);
        busy.refusesEach("copy(0, 1, 1, 1, #)", Due.BEYOND, (x, v) -> x.copy(0, 1, 1, 1, v), 3, GREATEST);
        busy.refuses("all as great as can be", Due.BEYOND, x -> x.copy(0, GREATEST, 1, GREATEST, GREATEST));
    }

    private static void copyTakesNothingBelow0() {
        due.begin("46 copy: BEYOND: .. or from, to or n is below 0");
        busy.refusesEach("copy(0, #, 1, 0, 1)", Due.BEYOND, (x, v) -> x.copy(0, v, 1, 0, 1), -1, LEAST);
        busy.refusesEach("copy(0, 0, 1, #, 1)", Due.BEYOND, (x, v) -> x.copy(0, 0, 1, v, 1), -1, LEAST);
        busy.refusesEach("copy(0, 0, 1, 0, #)", Due.BEYOND, (x, v) -> x.copy(0, 0, 1, 0, v), -1, LEAST);
        busy.refuses("all below 0", Due.BEYOND, x -> x.copy(0, -1, 1, -1, -1));
        busy.refuses("from and n that make up for one another", Due.BEYOND, x -> x.copy(0, 2, 1, 2, -1));
        busy.refuses("all as little as can be", Due.BEYOND, x -> x.copy(0, LEAST, 1, LEAST, LEAST));
    }

    private static void numbersAre(SeenLand x, int s, int... want) {
        due.is("how many", x.load(s, 0), want.length);
        for (int i = 0; i < want.length; i++) {
            due.is("number " + i, x.cellOf(i, 1), want[i]);
        }
    }

    private static void copyIsAsTheyAllWere() {
        due.begin("46 copy: .. come to another one (as they all were)");
        SeenLand onwards = Made.busy();
        due.is("onwards within one", onwards.copy(1, 0, 1, 1, 4), 4);
        numbersAre(onwards, 1, 41, 41, 42, 43, 44);
        SeenLand back = Made.busy();
        due.is("back within one", back.copy(1, 1, 1, 0, 4), 4);
        numbersAre(back, 1, 42, 43, 44, 45, 45);
        busy.tells("onto themselves", 5, x -> x.copy(1, 0, 1, 0, 5));
        SeenLand other = Made.busy();
        due.is("to another one", other.copy(0, 1, 1, 2, 2), 2);
        numbersAre(other, 1, 41, 42, 32, 33, 45);
        numbersAre(other, 0, 31, 32, 33);
        SeenLand wide = new SeenLand();
        wide.sheet(0, 16, 40);
        wide.write(0, 39, 77);
        wide.sheet(1, 16, 40);
        due.is("all forty", wide.copy(0, 0, 1, 0, 40), 40);
        due.is("the last one back", wide.copy(1, 39, 1, 0, 1), 1);
        wide.load(1, 23);
        due.is("which came", wide.cellOf(23, 1), 77);
    }

    private static void loadTakesASheetAndACell() {
        due.begin("47 load: BEYOND: no such sheet; BEYOND: no such CELL");
        new Edges(due, SheetsEdgesTest::fourSheets).ends("load(#, 0)", 0, 3, (x, v) -> x.load(v, 0), 2, 2);
        busy.ends("load(1, #)", 0, 23, (x, v) -> x.load(1, v), 5, 1);
        new Edges(due, () -> {
            SeenLand x = new SeenLand();
            x.sheet(0, 8, 0);
            return x;
        }).ends("load(0, #) of none", 0, 23, (x, v) -> x.load(0, v), 0, 0);
    }

    private static void loadIsMissing() {
        due.begin("47 load: MISSING, asked ahead of BEYOND: no such CELL");
        busy.refusesEach("load(3, #)", Due.MISSING, (x, v) -> x.load(3, v), 0, -1, 24, LEAST, GREATEST);
        due.begin("47 load: BEYOND: no such sheet is asked ahead of MISSING");
        bare.refusesEach("load(#, 0)", Due.BEYOND, (x, v) -> x.load(v, 0), -1, 4, LEAST, GREATEST);
    }

    private static void loadEndsAtTheFirstThatIsNoHeight() {
        due.begin("47 load: it ends at the first that isn't 0 to 99");
        for (int wrong : new int[] {-1, 100, LEAST, GREATEST}) {
            for (int right = 0; right <= 2; right++) {
                SeenLand x = Made.of("land 0 to 23 high 50");
                Made.writeSheet(x, 0, 32, 0, 99, 7, 8);
                x.write(0, right, wrong);
                due.is(wrong + " at " + right, x.load(0, 10), right);
                due.is("the cell behind the last stays", x.cellOf(10 + right, 1), 50);
                due.is("the next one, too", x.cellOf(11 + right, 1), 50);
                for (int i = 0; i < right; i++) {
                    due.is("what came", x.cellOf(10 + i, 1), i == 0 ? 0 : 99);
                }
            }
        }
        SeenLand ends = new SeenLand();
        Made.writeSheet(ends, 0, 8, 99, 0, 99);
        due.is("0 and 99 are taken", ends.load(0, 0), 3);
        due.is("99", ends.cellOf(2, 1), 99);
    }

    private static void loadEndsAtTheLastCell() {
        due.begin("47 load: .. or for which there is no CELL");
        int[][] fromAndCame = {{0, 24}, {1, 23}, {22, 2}, {23, 1}};
        for (int[] c : fromAndCame) {
            SeenLand x = Made.of("land 0 to 23 high 50");
            x.sheet(0, 8, 40);
            due.is("40 numbers from " + c[0], x.load(0, c[0]), c[1]);
            due.is("the last", x.cellOf(23, 1), 0);
            due.is("the first", x.cellOf(0, 1), c[0] == 0 ? 0 : 50);
        }
        SeenLand fits = new SeenLand();
        fits.sheet(0, 8, 4);
        due.is("4 numbers from 20", fits.load(0, 20), 4);
        due.is("4 numbers from 21", fits.load(0, 21), 3);
    }

    private static void judgeTakesASheetAndYears() {
        due.begin("48 judge: BEYOND: no such sheet; BEYOND: n");
        Edges judged = new Edges(due, () -> judgedAt(4));
        judged.ends("judge(2, #)", 0, 60, (x, v) -> x.judge(2, v), 0, 0);
        judged.refusesEach("judge(#, 0)", Due.BEYOND, (x, v) -> x.judge(v, 0), -1, 4, LEAST, GREATEST);
        new Edges(due, SheetsEdgesTest::fourSheets).ends("judge(#, 0)", 0, 3, (x, v) -> x.judge(v, 0), 1, 1);
        judged.tells("judge(2, 60)", 0, x -> x.judge(2, 60));
        judged.tells("judge(1, 60)", 1, x -> x.judge(1, 60));
    }

    private static void judgeIsMissing() {
        due.begin("48 judge: MISSING, asked ahead of BEYOND: n");
        busy.refusesEach("judge(3, #)", Due.MISSING, (x, v) -> x.judge(3, v), 0, 60, -1, 61, LEAST, GREATEST);
        due.begin("48 judge: BEYOND: no such sheet is asked ahead of MISSING");
        bare.refusesEach("judge(#, 61)", Due.BEYOND, (x, v) -> x.judge(v, 61), -1, 4);
    }

    private static void judgeEndsWithYear999() {
        due.begin("48 judge: STATE");
        at939.answers("60 at 939", 0, x -> x.judge(2, 60));
        at940.answers("59 at 940", 0, x -> x.judge(2, 59));
        at940.refuses("60 at 940", Due.STATE, x -> x.judge(2, 60));
        due.begin("48 judge: BEYOND and MISSING are asked ahead of STATE");
        at940.refuses("too many years", Due.BEYOND, x -> x.judge(2, 61));
        at940.refuses("a sheet that is missing", Due.MISSING, x -> x.judge(3, 60));
        at940.refuses("no such sheet", Due.BEYOND, x -> x.judge(4, 60));
    }

    /** The elm hides cell 12 in 60 years: TAX is 4 until then. */
    private static void judgeIsBehindYears() {
        due.begin("48 judge: TAXES behind n YEARS (0 to 60) AHEAD");
        SeenLand x = Made.of("land 10 high 20;house 10 floor 40;elm 11;haze 2;roof 8 to 9;land 12 high 59");
        Made.writeSheet(x, 0, 8, 4);
        Made.writeSheet(x, 1, 8, 3);
        int[] years = {0, 59, 60};
        for (int n : years) {
            due.is("4 behind " + n, x.judge(0, n), n < 60 ? 0 : 1);
            due.is("3 behind " + n, x.judge(1, n), n < 60 ? 1 : 0);
        }
    }

    private static int judgedNumbers(int... numbers) {
        SeenLand x = Made.busy();
        Made.writeSheet(x, 3, 32, numbers);
        return x.judge(3, 0);
    }

    private static void judgeCountsFromTheFirstOn() {
        due.begin("48 judge: else 1 and how many are right, from the first on");
        due.is("all right", judgedNumbers(24, 3, 7), 0);
        due.is("the last wrong", judgedNumbers(24, 3, 8), 3);
        due.is("the second wrong", judgedNumbers(24, 4, 7), 2);
        due.is("the first wrong", judgedNumbers(23, 3, 7), 1);
        due.is("the first and the last wrong", judgedNumbers(25, 3, 6), 1);
        due.is("all wrong", judgedNumbers(0, 0, 0), 1);
        due.is("numbers at the ends of int", judgedNumbers(24, LEAST, GREATEST), 2);
    }

    private static void judgeAsksForAsManyAsHouses() {
        due.begin("48 judge: 0 if all are, and as many as HOUSES");
        due.is("no numbers", judgedNumbers(), 1);
        due.is("one too few", judgedNumbers(24, 3), 3);
        due.is("one too many", judgedNumbers(24, 3, 7, 0), 4);
        due.is("one too many, and a wrong one", judgedNumbers(24, 3, 6, 0), 3);
        busy.answers("one too few, though that TAX is 0", 3, x -> {
            x.windows(2, 0);
            Made.writeSheet(x, 3, 32, 24, 3);
            return x.judge(3, 0);
        });
        bare.answers("no numbers, no HOUSES", 0, x -> {
            x.sheet(0, 8, 0);
            return x.judge(0, 0);
        });
        bare.answers("a 0, no HOUSES", 1, x -> {
            x.sheet(0, 8, 1);
            return x.judge(0, 0);
        });
        Edges eight = new Edges(due, Made::eightHouses);
        eight.answers("eight", 0, x -> {
            Made.writeSheet(x, 0, 8, 23, 23, 23, 23, 23, 23, 23, 23);
            return x.judge(0, 60);
        });
        eight.answers("nine", 9, x -> {
            Made.writeSheet(x, 0, 8, 23, 23, 23, 23, 23, 23, 23, 23, 23);
            return x.judge(0, 60);
        });
        eight.answers("forty", 9, x -> {
            x.sheet(0, 8, 40);
            for (int i = 0; i < 40; i++) {
                x.write(0, i, 23);
            }
            return x.judge(0, 0);
        });
    }
}
