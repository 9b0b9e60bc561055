/** Promises 42 to 48: spots, sheets. */
public final class SheetsTest {
    private static final Due due = new Due();

    public static void main(String[] args) {
        promise42();
        promise43();
        promise44();
        promise45();
        promise46();
        promise47();
        promise48();
        due.end();
    }

    private static void promise42() {
        due.begin("promise 42");
        SeenLand x = new SeenLand();
        due.is("hold(0, 23)", x.hold(0, 23), 1);
        due.is("hold(9, 0)", x.hold(9, 0), 1);
        due.is("as(0, 0)", x.as(0, 0), 23);
        due.is("as(9, 0)", x.as(9, 0), 0);
        due.is("count(6)", x.count(6), 2);
        due.is("hold(0, -1)", x.hold(0, -1), 1);
        due.is("it holds nothing", x.as(0, 0), Due.MISSING);
        due.is("count(6)", x.count(6), 1);
        due.is("hold(10, 0)", x.hold(10, 0), Due.BEYOND);
        due.is("hold(-1, 0)", x.hold(-1, 0), Due.BEYOND);
        due.is("hold(9, 24)", x.hold(9, 24), Due.BEYOND);
        due.is("hold(9, -2)", x.hold(9, -2), Due.BEYOND);
        due.is("spot 9 stays", x.as(9, 0), 0);
    }

    private static void promise43() {
        due.begin("promise 43");
        SeenLand x = new SeenLand();
        String[] ups = {"0", "01", "02", "013", "04", "05", "056"};
        for (int kind = 0; kind < 7; kind++) {
            x.set(10 + kind, kind);
            x.hold(kind, 10 + kind);
            for (int asked = 0; asked < 7; asked++) {
                boolean is = ups[kind].indexOf('0' + asked) >= 0;
                due.is("kind " + kind + " as " + asked, x.as(kind, asked), is ? 10 + kind : Due.KIND);
            }
        }
        due.is("as(7, 0)", x.as(7, 0), Due.MISSING);
        due.is("as(7, 7)", x.as(7, 7), Due.BEYOND);
        due.is("as(0, -1)", x.as(0, -1), Due.BEYOND);
        due.is("as(10, 0)", x.as(10, 0), Due.BEYOND);
        due.is("as(-1, 0)", x.as(-1, 0), Due.BEYOND);
        x.set(10, 3);
        due.is("what is there now", x.as(0, 1), 10);
    }

    private static void promise44() {
        due.begin("promise 44");
        SeenLand x = new SeenLand();
        due.is("sheet(0, 8, 40)", x.sheet(0, 8, 40), 40);
        due.is("sheet(1, 16, 0)", x.sheet(1, 16, 0), 0);
        due.is("sheet(3, 32, 1)", x.sheet(3, 32, 1), 1);
        due.is("one of no numbers isn't missing", x.load(1, 0), 0);
        x.write(3, 0, 7);
        due.is("sheet(4, 8, -1)", x.sheet(4, 8, -1), Due.BEYOND);
        due.is("sheet(-1, 8, 1)", x.sheet(-1, 8, 1), Due.BEYOND);
        due.is("sheet(3, 9, -1)", x.sheet(3, 9, -1), Due.BEYOND);
        due.is("sheet(3, -8, 1)", x.sheet(3, -8, 1), Due.BEYOND);
        due.is("sheet(3, 64, 1)", x.sheet(3, 64, 1), Due.BEYOND);
        due.is("sheet(3, 32, -1)", x.sheet(3, 32, -1), Due.SIZE);
        due.is("sheet(3, 32, 41)", x.sheet(3, 32, 41), Due.BEYOND);
        due.is("sheet(3, 0, -1)", x.sheet(3, 0, -1), Due.SIZE);
        due.is("sheet(3, 0, 41)", x.sheet(3, 0, 41), Due.BEYOND);
        due.is("it stays", x.load(3, 0), 1);
        due.is("with its number", x.cellOf(0, 1), 7);
        due.is("sheet(3, 32, 2)", x.sheet(3, 32, 2), 2);
        due.is("all are 0", x.load(3, 0), 2);
        due.is("the first, too", x.cellOf(0, 1), 0);
        due.is("sheet(3, 0, 40)", x.sheet(3, 0, 40), 0);
        due.is("it is missing", x.load(3, 0), Due.MISSING);
        due.is("sheet(3, 0, 0)", x.sheet(3, 0, 0), 0);
        due.is("status(6)", x.status(6), 2);
        x.sheet(1, 8, 1);
        x.write(1, 0, 9);
        x.sheet(0, 8, 40);
        x.sheet(2, 8, 40);
        x.load(1, 4);
        due.is("another one stays", x.cellOf(4, 1), 9);
    }

    /** With a rate of 0 and one house the reader finds a sheet right just if its one number is 0. */
    private static boolean isZero(SeenLand x, int s) {
        x.law(1, 0);
        return x.judge(s, 0) == 0;
    }

    private static void promise45() {
        due.begin("promise 45");
        SeenLand x = new SeenLand();
        x.house(0, 1);
        x.sheet(0, 8, 1);
        x.sheet(1, 16, 1);
        x.sheet(2, 32, 2);
        due.is("256 in 8 bits", x.write(0, 0, 256), 1);
        due.holds("is 0", isZero(x, 0));
        due.is("65536 in 16 bits", x.write(1, 0, 65536), 1);
        due.holds("is 0, too", isZero(x, 1));
        x.write(1, 0, 256);
        due.holds("256 in 16 bits isn't", !isZero(x, 1));
        x.write(0, 0, 0x7f0000 + 99);
        due.is("load, 8 bits", x.load(0, 5), 1);
        due.is("99 of 8 bits", x.cellOf(5, 1), 99);
        x.write(0, 0, 255);
        due.is("255 of 8 bits is -1", x.load(0, 5), 0);
        x.write(1, 0, 65535);
        due.is("65535 of 16 bits is -1", x.load(1, 5), 0);
        due.is("write(2, 1, 65536 + 5)", x.write(2, 1, 65536 + 5), 1);
        due.is("32 bits are all kept", x.load(2, 5), 1);
        due.is("write(4, 0, 0)", x.write(4, 0, 0), Due.BEYOND);
        due.is("write(-1, 0, 0)", x.write(-1, 0, 0), Due.BEYOND);
        due.is("write(3, -1, 0)", x.write(3, -1, 0), Due.MISSING);
        due.is("write(2, -1, 0)", x.write(2, -1, 0), Due.BEYOND);
        due.is("write(2, 2, 0)", x.write(2, 2, 0), Due.BEYOND);
        due.is("write(2, MAX, 0)", x.write(2, Integer.MAX_VALUE, 0), Due.BEYOND);
        wideTaxes();
    }

    /** A tax of 198 is a number of 16 bits, but not one of 8. */
    private static void wideTaxes() {
        SeenLand x = new SeenLand();
        x.house(0, 1);
        x.windows(0, 2);
        x.law(0, 1);
        x.set(1, 3);
        x.law(1, 99);
        due.is("tax", x.tax(0), 198);
        x.sheet(0, 8, 1);
        x.sheet(1, 16, 1);
        x.write(0, 0, 198);
        x.write(1, 0, 198);
        due.is("8 bits", x.judge(0, 0), 1);
        due.is("16 bits", x.judge(1, 0), 0);
    }

    private static void heightsAre(SeenLand x, int s, int... want) {
        x.load(s, 0);
        for (int i = 0; i < want.length; i++) {
            due.is("number " + i + " of sheet " + s, x.cellOf(i, 1), want[i]);
        }
    }

    private static void promise46() {
        due.begin("promise 46");
        SeenLand x = new SeenLand();
        x.sheet(0, 8, 5);
        x.sheet(1, 8, 3);
        x.sheet(2, 16, 5);
        for (int i = 0; i < 5; i++) {
            x.write(0, i, i + 1);
        }
        due.is("copy(0, 3, 1, 1, 2)", x.copy(0, 3, 1, 1, 2), 2);
        heightsAre(x, 1, 0, 4, 5);
        due.is("within one, onwards", x.copy(0, 0, 0, 1, 4), 4);
        heightsAre(x, 0, 1, 1, 2, 3, 4);
        due.is("within one, back", x.copy(0, 1, 0, 0, 4), 4);
        heightsAre(x, 0, 1, 2, 3, 4, 4);
        due.is("none, at the end", x.copy(0, 5, 1, 3, 0), 0);
        due.is("copy(4, 0, 3, 0, 0)", x.copy(4, 0, 3, 0, 0), Due.BEYOND);
        due.is("copy(3, 0, 4, 0, 0)", x.copy(3, 0, 4, 0, 0), Due.BEYOND);
        due.is("copy(-1, 0, 0, 0, 0)", x.copy(-1, 0, 0, 0, 0), Due.BEYOND);
        due.is("copy(0, 0, -1, 0, 0)", x.copy(0, 0, -1, 0, 0), Due.BEYOND);
        due.is("copy(3, 0, 0, 0, -1)", x.copy(3, 0, 0, 0, -1), Due.MISSING);
        due.is("copy(0, 0, 3, 0, -1)", x.copy(0, 0, 3, 0, -1), Due.MISSING);
        due.is("copy(0, 0, 2, 0, -1)", x.copy(0, 0, 2, 0, -1), Due.KIND);
        due.is("copy(0, 0, 1, 0, -1)", x.copy(0, 0, 1, 0, -1), Due.BEYOND);
        due.is("copy(0, -1, 1, 0, 1)", x.copy(0, -1, 1, 0, 1), Due.BEYOND);
        due.is("copy(0, 0, 1, -1, 1)", x.copy(0, 0, 1, -1, 1), Due.BEYOND);
        due.is("copy(0, 0, 1, 0, 4)", x.copy(0, 0, 1, 0, 4), Due.BEYOND);
        due.is("copy(0, 3, 1, 0, 3)", x.copy(0, 3, 1, 0, 3), Due.BEYOND);
        due.is("copy(0, 6, 1, 0, 0)", x.copy(0, 6, 1, 0, 0), Due.BEYOND);
        int max = Integer.MAX_VALUE;
        due.is("copy(0, MAX, 1, MAX, MAX)", x.copy(0, max, 1, max, max), Due.BEYOND);
        due.is("copy(0, MAX, 1, 0, 1)", x.copy(0, max, 1, 0, 1), Due.BEYOND);
        heightsAre(x, 1, 0, 4, 5);
    }

    private static void promise47() {
        due.begin("promise 47");
        SeenLand x = new SeenLand();
        x.sheet(0, 16, 4);
        x.write(0, 0, 99);
        x.write(0, 1, 5);
        x.write(0, 2, 100);
        x.write(0, 3, 7);
        due.is("up to one that is too great", x.load(0, 2), 2);
        due.is("height of 2", x.cellOf(2, 1), 99);
        due.is("top of 2", x.cellOf(2, 3), 99);
        due.is("height of 3", x.cellOf(3, 1), 5);
        due.is("height of 4", x.cellOf(4, 1), 0);
        due.is("height of 5", x.cellOf(5, 1), 0);
        x.write(0, 2, 6);
        due.is("all", x.load(0, 10), 4);
        due.is("no more cells", x.load(0, 22), 2);
        due.is("the last cell", x.load(0, 23), 1);
        due.is("height of 23", x.cellOf(23, 1), 99);
        x.write(0, 0, -1);
        due.is("none", x.load(0, 0), 0);
        due.is("load(4, 0)", x.load(4, 0), Due.BEYOND);
        due.is("load(-1, 0)", x.load(-1, 0), Due.BEYOND);
        due.is("load(1, 24)", x.load(1, 24), Due.MISSING);
        due.is("load(0, 24)", x.load(0, 24), Due.BEYOND);
        due.is("load(0, -1)", x.load(0, -1), Due.BEYOND);
    }

    private static void promise48() {
        due.begin("promise 48");
        SeenLand x = new SeenLand();
        x.sheet(0, 32, 0);
        due.is("no houses, no numbers", x.judge(0, 0), 0);
        x.house(10, 1);
        x.house(12, 1);
        x.set(11, 5);
        due.is("too few", x.judge(0, 0), 1);
        x.sheet(0, 32, 2);
        due.is("none right", x.judge(0, 0), 1);
        x.write(0, 1, 23);
        due.is("the second alone", x.judge(0, 0), 1);
        x.write(0, 0, 23);
        due.is("all right", x.judge(0, 0), 0);
        due.is("not in a year", x.judge(0, 1), 1);
        x.write(0, 0, 11);
        due.is("the first in a year", x.judge(0, 1), 2);
        x.write(0, 1, 12);
        due.is("all in a year", x.judge(0, 1), 0);
        x.sheet(1, 32, 3);
        x.copy(0, 0, 1, 0, 2);
        due.is("too many", x.judge(1, 1), 3);
        x.sheet(2, 32, 1);
        x.copy(0, 0, 2, 0, 1);
        due.is("too few, right", x.judge(2, 1), 2);
        x.windows(1, 0);
        due.is("too few, though the other tax is 0", x.judge(2, 1), 2);
        x.windows(1, 3);
        due.is("judge(4, 61)", x.judge(4, 61), Due.BEYOND);
        due.is("judge(-1, 0)", x.judge(-1, 0), Due.BEYOND);
        due.is("judge(3, 61)", x.judge(3, 61), Due.MISSING);
        due.is("judge(0, 61)", x.judge(0, 61), Due.BEYOND);
        due.is("judge(0, -1)", x.judge(0, -1), Due.BEYOND);
        Due.goTo(x, 940);
        due.is("judge(3, 60) at 940", x.judge(3, 60), Due.MISSING);
        due.is("judge(0, 61) at 940", x.judge(0, 61), Due.BEYOND);
        due.is("judge(0, 60) at 940", x.judge(0, 60), Due.STATE);
        due.is("judge(0, 59) at 940", x.judge(0, 59), 0);
    }
}
