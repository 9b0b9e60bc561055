/** Promises 1 to 11: a new object, cells, houses. */
public final class CellsTest {
    private static final Due due = new Due();

    public static void main(String[] args) {
        promise1();
        promise2();
        promise3();
        promise4();
        promise5();
        promise6();
        promise7();
        promise8();
        promise9();
        promise10();
        promise11();
        due.end();
    }

    private static void promise1() {
        due.begin("promise 1");
        SeenLand x = new SeenLand();
        for (int c = 0; c < 24; c++) {
            due.is("cellOf(" + c + ", 0)", x.cellOf(c, 0), 0);
            due.is("cellOf(" + c + ", 1)", x.cellOf(c, 1), 0);
            due.is("cellOf(" + c + ", 2)", x.cellOf(c, 2), 0);
            due.is("cellOf(" + c + ", 3)", x.cellOf(c, 3), 0);
            due.is("cellOf(" + c + ", 4)", x.cellOf(c, 4), 1);
        }
        due.is("law(0, 23)", x.law(0, 23), 23);
        due.is("law(1, 10)", x.law(1, 10), 10);
        int[] counts = {0, 0, 0, 0, 0, 1, 0};
        for (int what = 0; what < counts.length; what++) {
            due.is("count(" + what + ")", x.count(what), counts[what]);
        }
        due.is("tear()", x.tear(), 0);
        due.is("wipe()", x.wipe(), 0);
        due.is("status(-1)", x.status(-1), 0);
        due.is("undo()", x.undo(), Due.NONE);
        for (int spot = 0; spot < 10; spot++) {
            due.is("as(" + spot + ", 0)", x.as(spot, 0), Due.MISSING);
        }
        for (int s = 0; s < 4; s++) {
            due.is("write(" + s + ", 0, 0)", x.write(s, 0, 0), Due.MISSING);
        }
        due.is("houseOf(0, 0)", x.houseOf(0, 0), Due.BEYOND);
    }

    private static void promise2() {
        due.begin("promise 2");
        SeenLand x = new SeenLand();
        due.is("cell(3, 0, 40)", x.cell(3, 0, 40), 0);
        due.is("cell(3, 0, 7)", x.cell(3, 0, 7), 40);
        due.is("cell(3, 1, 99)", x.cell(3, 1, 99), 0);
        due.is("cell(3, 1, 12)", x.cell(3, 1, 12), 99);
        due.is("height", x.cellOf(3, 1), 7);
        due.is("age", x.cellOf(3, 2), 12);
        due.is("another cell's height", x.cellOf(2, 1), 0);
        due.is("cell(0, 0, 99)", x.cell(0, 0, 99), 0);
        due.is("cell(0, 0, 0)", x.cell(0, 0, 0), 99);
        due.is("cell(23, 1, 0)", x.cell(23, 1, 0), 0);
        due.is("cell(-1, 0, 5)", x.cell(-1, 0, 5), Due.BEYOND);
        due.is("cell(24, 0, 5)", x.cell(24, 0, 5), Due.BEYOND);
        due.is("cell(3, -1, 5)", x.cell(3, -1, 5), Due.BEYOND);
        due.is("cell(3, 2, 5)", x.cell(3, 2, 5), Due.BEYOND);
        due.is("cell(3, 0, -1)", x.cell(3, 0, -1), Due.BEYOND);
        due.is("cell(3, 0, 100)", x.cell(3, 0, 100), Due.BEYOND);
        due.is("cell(3, 1, -1)", x.cell(3, 1, -1), Due.BEYOND);
        due.is("cell(3, 1, 100)", x.cell(3, 1, 100), Due.BEYOND);
        due.is("height stays", x.cellOf(3, 1), 7);
        due.is("age stays", x.cellOf(3, 2), 12);
        due.is("status(0)", x.status(0), 8);
    }

    private static void promise3() {
        due.begin("promise 3");
        SeenLand x = new SeenLand();
        x.cell(5, 0, 11);
        due.is("set(5, 6)", x.set(5, 6), 0);
        x.cell(5, 1, 50);
        due.is("set(5, 6) again", x.set(5, 6), 6);
        due.is("age", x.cellOf(5, 2), 0);
        due.is("height", x.cellOf(5, 1), 11);
        due.is("kind", x.cellOf(5, 0), 6);
        due.is("set(5, 0)", x.set(5, 0), 6);
        x.cell(5, 1, 9);
        due.is("set(-1, 0)", x.set(-1, 0), Due.BEYOND);
        due.is("set(24, 0)", x.set(24, 0), Due.BEYOND);
        due.is("set(5, -1)", x.set(5, -1), Due.BEYOND);
        due.is("set(5, 7)", x.set(5, 7), Due.BEYOND);
        due.is("age stays", x.cellOf(5, 2), 9);
    }

    private static void promise4() {
        due.begin("promise 4");
        SeenLand x = new SeenLand();
        int[] tops = {10, 10, 10, 0, 15, 40, 60};
        int[] youngTops = {10, 10, 10, 0, 15, 39, 53};
        int[] worths = {1, 5, 3, 20, 0, 1, 3};
        for (int kind = 0; kind < 7; kind++) {
            x.set(kind, kind);
            x.cell(kind, 0, 10);
            x.cell(kind, 1, 41);
            due.is("kind " + kind, x.cellOf(kind, 0), kind);
            due.is("height of kind " + kind, x.cellOf(kind, 1), 10);
            due.is("age of kind " + kind, x.cellOf(kind, 2), 41);
            due.is("top of kind " + kind, x.cellOf(kind, 3), tops[kind]);
            due.is("worth of kind " + kind, x.cellOf(kind, 4), worths[kind]);
            x.cell(kind, 1, 29);
            due.is("young top of kind " + kind, x.cellOf(kind, 3), youngTops[kind]);
        }
        x.cell(6, 1, 99);
        x.cell(6, 0, 99);
        due.is("highest elm", x.cellOf(6, 3), 99 + 30 + 49);
        due.is("cellOf(-1, 0)", x.cellOf(-1, 0), Due.BEYOND);
        due.is("cellOf(24, 0)", x.cellOf(24, 0), Due.BEYOND);
        due.is("cellOf(0, -1)", x.cellOf(0, -1), Due.BEYOND);
        due.is("cellOf(0, 5)", x.cellOf(0, 5), Due.BEYOND);
    }

    private static void promise5() {
        due.begin("promise 5");
        SeenLand x = new SeenLand();
        due.is("house(-1, 1)", x.house(-1, 1), Due.BEYOND);
        due.is("house(24, 1)", x.house(24, 1), Due.BEYOND);
        due.is("house(0, 0)", x.house(0, 0), Due.BEYOND);
        due.is("house(0, 41)", x.house(0, 41), Due.BEYOND);
        due.is("count(1)", x.count(1), 0);
        due.is("house(0, 1)", x.house(0, 1), 0);
        due.is("house(23, 40)", x.house(23, 40), 1);
        for (int h = 2; h < 8; h++) {
            due.is("house " + h, x.house(23, h), h);
        }
        due.is("both open", x.houseOf(7, 3), 3);
        due.is("cell", x.houseOf(1, 0), 23);
        due.is("floor", x.houseOf(1, 1), 40);
        due.is("a ninth", x.house(0, 1), Due.FULL);
        due.is("a ninth, beyond", x.house(24, 1), Due.BEYOND);
        due.is("a ninth, beyond by floor", x.house(0, 0), Due.BEYOND);
        due.is("count(1)", x.count(1), 8);
        due.is("status(1)", x.status(1), 1);
    }

    private static void promise6() {
        due.begin("promise 6");
        SeenLand x = new SeenLand();
        x.set(9, 4);
        x.cell(9, 0, 10);
        x.house(9, 7);
        due.is("cell", x.houseOf(0, 0), 9);
        due.is("floor", x.houseOf(0, 1), 7);
        due.is("eye", x.houseOf(0, 2), 22);
        due.is("windows", x.houseOf(0, 3), 3);
        x.set(9, 3);
        due.is("eye at sea", x.houseOf(0, 2), 7);
        x.windows(0, 2);
        due.is("east alone", x.houseOf(0, 3), 2);
        due.is("houseOf(1, 0)", x.houseOf(1, 0), Due.BEYOND);
        due.is("houseOf(-1, 0)", x.houseOf(-1, 0), Due.BEYOND);
        due.is("houseOf(0, -1)", x.houseOf(0, -1), Due.BEYOND);
        due.is("houseOf(0, 4)", x.houseOf(0, 4), Due.BEYOND);
    }

    private static void promise7() {
        due.begin("promise 7");
        SeenLand x = new SeenLand();
        x.house(9, 7);
        due.is("floor(0, 40)", x.floor(0, 40), 7);
        due.is("floor(0, 1)", x.floor(0, 1), 40);
        due.is("floor(0, 0)", x.floor(0, 0), Due.BEYOND);
        due.is("floor(0, 41)", x.floor(0, 41), Due.BEYOND);
        due.is("floor(1, 1)", x.floor(1, 1), Due.BEYOND);
        due.is("floor(-1, 1)", x.floor(-1, 1), Due.BEYOND);
        due.is("floor stays", x.houseOf(0, 1), 1);
    }

    private static void promise8() {
        due.begin("promise 8");
        SeenLand x = new SeenLand();
        x.house(9, 7);
        due.is("windows(0, 0)", x.windows(0, 0), 3);
        due.is("windows(0, 1)", x.windows(0, 1), 0);
        due.is("windows(0, 2)", x.windows(0, 2), 1);
        due.is("windows(0, 3)", x.windows(0, 3), 2);
        due.is("windows(0, -1)", x.windows(0, -1), Due.BEYOND);
        due.is("windows(0, 4)", x.windows(0, 4), Due.BEYOND);
        due.is("windows(1, 0)", x.windows(1, 0), Due.BEYOND);
        due.is("windows(-1, 0)", x.windows(-1, 0), Due.BEYOND);
        due.is("windows stay", x.houseOf(0, 3), 3);
    }

    private static void promise9() {
        due.begin("promise 9");
        SeenLand x = new SeenLand();
        due.is("law(0, 1)", x.law(0, 1), 23);
        due.is("law(0, 23)", x.law(0, 23), 1);
        due.is("law(1, 0)", x.law(1, 0), 10);
        due.is("law(1, 99)", x.law(1, 99), 0);
        due.is("law(0, 0)", x.law(0, 0), Due.BEYOND);
        due.is("law(0, 24)", x.law(0, 24), Due.BEYOND);
        due.is("law(1, -1)", x.law(1, -1), Due.BEYOND);
        due.is("law(1, 100)", x.law(1, 100), Due.BEYOND);
        due.is("law(-1, 5)", x.law(-1, 5), Due.BEYOND);
        due.is("law(2, 5)", x.law(2, 5), Due.BEYOND);
        due.is("haze stays", x.law(0, 5), 23);
        due.is("rate stays", x.law(1, 5), 99);
    }

    private static void promise10() {
        due.begin("promise 10");
        SeenLand x = new SeenLand();
        x.cell(1, 0, 9);
        x.cell(2, 0, 5);
        x.cell(3, 0, 6);
        x.cell(5, 0, 9);
        due.is("dig(2, 4, 5)", x.dig(2, 4, 5), 2);
        int[] left = {0, 9, 0, 1, 0, 9};
        for (int c = 0; c < left.length; c++) {
            due.is("height of " + c, x.cellOf(c, 1), left[c]);
        }
        due.is("top", x.cellOf(3, 3), 1);
        due.is("dig(5, 5, 1)", x.dig(5, 5, 1), 0);
        due.is("dig(5, 5, 99)", x.dig(5, 5, 99), 1);
        due.is("dig(0, 23, 1)", x.dig(0, 23, 1), 23);
        due.is("dig(4, 3, 1)", x.dig(4, 3, 1), Due.BEYOND);
        due.is("dig(-1, 3, 1)", x.dig(-1, 3, 1), Due.BEYOND);
        due.is("dig(0, 24, 1)", x.dig(0, 24, 1), Due.BEYOND);
        due.is("dig(0, 23, 0)", x.dig(0, 23, 0), Due.BEYOND);
        due.is("dig(0, 23, 100)", x.dig(0, 23, 100), Due.BEYOND);
        due.is("height stays", x.cellOf(1, 1), 8);
    }

    private static void promise11() {
        due.begin("promise 11");
        SeenLand x = new SeenLand();
        Due.read(x, "water 2 high 7 age 9; water 3 high 3; sea 4 high 9; wood 5 high 8 age 2");
        due.is("drain(-1)", x.drain(-1), Due.BEYOND);
        due.is("drain(21)", x.drain(21), Due.BEYOND);
        due.is("drain(5)", x.drain(5), 2);
        due.is("kind", x.cellOf(2, 0), 2);
        due.is("height", x.cellOf(2, 1), 2);
        due.is("age", x.cellOf(2, 2), 9);
        due.is("worth", x.cellOf(2, 4), 3);
        due.is("height, 0 at least", x.cellOf(3, 1), 0);
        due.is("the sea", x.cellOf(4, 0), 3);
        due.is("the sea's height", x.cellOf(4, 1), 9);
        due.is("the wood's height", x.cellOf(5, 1), 8);
        due.is("drain(20) again", x.drain(20), 0);
        x.set(2, 1);
        due.is("drain(0)", x.drain(0), 1);
        due.is("height with 0", x.cellOf(2, 1), 2);
        Due.read(x, "water 0 to 23");
        due.is("all cells", x.drain(1), 24);
        due.is("the first", x.cellOf(0, 0), 2);
        due.is("the last", x.cellOf(23, 0), 2);
    }
}
