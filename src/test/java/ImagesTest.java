/** Promises 49 to 53: images, counts, status. */
public final class ImagesTest {
    private static final Due due = new Due();

    public static void main(String[] args) {
        promise49();
        promise50();
        promise51();
        promise52();
        promise53();
        due.end();
    }

    private static void promise49() {
        due.begin("promise 49");
        SeenLand x = new SeenLand();
        Due.read(x, "elm 3 high 7 age 9;house 4 floor 5 blind east;haze 6;rate 8");
        x.hold(2, 3);
        x.seed(77);
        x.years(2);
        Due.feed(x, "land");
        x.sheet(0, 8, 1);
        due.is("image()", x.image(), 1);
        changeAll(x);
        due.is("undo()", x.undo(), 2);
        due.is("kind", x.cellOf(3, 0), 6);
        due.is("height", x.cellOf(3, 1), 7);
        due.is("age", x.cellOf(3, 2), 11);
        due.is("top", x.cellOf(3, 3), 7 + 11 + 5);
        due.is("houses", x.count(1), 1);
        due.is("cell of the house", x.houseOf(0, 0), 4);
        due.is("floor", x.houseOf(0, 1), 5);
        due.is("windows", x.houseOf(0, 3), 1);
        due.is("haze", x.law(0, 23), 6);
        due.is("rate", x.law(1, 10), 8);
        due.is("z", x.count(5), 77);
        due.is("spots", x.count(6), 1);
        due.is("spot 2", x.as(2, 6), 3);
        due.is("the tape stays", x.count(4), 5);
        due.is("the sheets stay", x.load(0, 0), 1);
        due.is("with their numbers", x.cellOf(0, 1), 44);
    }

    private static void changeAll(SeenLand x) {
        x.set(3, 0);
        x.cell(3, 0, 50);
        x.house(9, 9);
        x.floor(0, 7);
        x.windows(0, 3);
        x.law(0, 12);
        x.law(1, 13);
        x.hold(2, -1);
        x.hold(5, 5);
        x.hold(6, 6);
        x.quake(3);
        x.years(30);
        Due.feed(x, "s");
        x.write(0, 0, 44);
    }

    private static void promise50() {
        due.begin("promise 50");
        SeenLand x = new SeenLand();
        due.is("nothing kept", x.undo(), Due.NONE);
        x.image();
        x.years(5);
        x.image();
        x.years(7);
        due.is("undo()", x.undo(), 5);
        x.years(7);
        due.is("which stays", x.undo(), 5);
        due.is("ages", x.cellOf(0, 2), 5);
    }

    private static void promise51() {
        due.begin("promise 51");
        SeenLand x = new SeenLand();
        due.is("tear() at first", x.tear(), 0);
        x.image();
        x.image();
        due.is("tear()", x.tear(), 1);
        due.is("tear() again", x.tear(), 0);
        due.is("undo()", x.undo(), Due.NONE);
        x.years(3);
        x.image();
        due.is("undo() behind another", x.undo(), 3);
    }

    private static void promise52() {
        due.begin("promise 52");
        SeenLand x = new SeenLand();
        x.house(10, 1);
        x.house(12, 1);
        x.windows(0, 1);
        x.windows(1, 1);
        x.years(4);
        Due.feed(x, "abc");
        x.seed(-1000003);
        x.hold(1, 0);
        x.hold(2, 0);
        int[] want = {4, 2, 10 + 12, 13, 3, -1000003, 2};
        for (int what = 0; what < want.length; what++) {
            due.is("count(" + what + ")", x.count(what), want[what]);
        }
        due.is("no findings", x.status(-1), 0);
        due.is("count(-1)", x.count(-1), Due.BEYOND);
        due.is("count(7)", x.count(7), Due.BEYOND);
        due.is("two findings", x.status(-1), 2);
    }

    private static void promise53() {
        due.begin("promise 53");
        SeenLand x = new SeenLand();
        x.image();
        x.sight(0);
        for (int h = 0; h < 9; h++) {
            x.house(h, 1);
        }
        x.hold(0, 0);
        x.as(0, 1);
        x.as(0, 2);
        x.wall(0, 23);
        x.lost(0, 0);
        x.hidden(0, 0);
        x.as(1, 0);
        x.load(0, 0);
        x.load(1, 0);
        x.sheet(0, 0, -1);
        int[] want = {1, 1, 2, 1, 1, 3, 1};
        for (int which = 0; which < want.length; which++) {
            due.is("status(" + which + ")", x.status(which), want[which]);
        }
        due.is("all", x.status(-1), 10);
        due.is("status(7)", x.status(7), Due.BEYOND);
        due.is("status(-2)", x.status(-2), Due.BEYOND);
        due.is("these count", x.status(0), 3);
        x.undo();
        due.is("undo() takes none back", x.status(-1), 12);
        Due.read(x, "fault");
        due.is("a fault is none", x.status(-1), 12);
    }
}
