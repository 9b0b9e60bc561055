/** The edges that promises 1 and 49 to 53 name: a new object, images, counts, status. */
public final class ImagesEdgesTest {
    private static final Due due = new Due();
    private static final Edges busy = new Edges(due, Made::busy);
    private static final Edges bare = new Edges(due, SeenLand::new);

    public static void main(String[] args) {
        aNewObjectIsAsAtFirst();
        objectsShareNothing();
        imageKeepsAllButTapeAndSheets();
        imageKeepsNoStatus();
        imageIsTheLatest();
        undoIsNone();
        undoStays();
        undoTakesHousesBack();
        tearIsNoneAndSome();
        tearLeavesAll();
        countTakesAWhat();
        countIsEmptyAndFull();
        statusTakesAWhich();
        statusCountsEachFinding();
        statusCountsFromThenOn();
        statusIsTakenBackByNothing();
        due.end();
    }

    private static void aNewObjectIsAsAtFirst() {
        due.begin("1 SeenLand(): all as at first; no HOUSES; THE TAPE is empty, no image is kept");
        for (int c = 0; c < 24; c++) {
            for (int what = 0; what <= 3; what++) {
                int w = what;
                int cell = c;
                bare.answers("cellOf(" + c + ", " + what + ")", 0, x -> x.cellOf(cell, w));
            }
        }
        int[] counts = {0, 0, 0, 0, 0, 1, 0};
        for (int what = 0; what < counts.length; what++) {
            int w = what;
            bare.tells("count(" + w + ")", counts[w], x -> x.count(w));
        }
        bare.answers("HAZE", 23, x -> x.law(0, 5));
        bare.answers("RATE", 10, x -> x.law(1, 5));
        bare.refuses("the first HOUSE", Due.BEYOND, x -> x.houseOf(0, 0));
        bare.refuses("an image", Due.NONE, x -> x.undo());
        for (int s = 0; s < 4; s++) {
            int sheet = s;
            bare.refuses("sheet " + s, Due.MISSING, x -> x.load(sheet, 0));
        }
        for (int spot = 0; spot < 10; spot++) {
            int held = spot;
            bare.refuses("spot " + spot, Due.MISSING, x -> x.as(held, 0));
        }
        for (int which = -1; which <= 6; which++) {
            int w = which;
            bare.tells("status(" + w + ")", 0, x -> x.status(w));
        }
    }

    private static void objectsShareNothing() {
        due.begin("1 SeenLand(): each object is its own");
        SeenLand early = new SeenLand();
        Made.busy();
        SeenLand late = new SeenLand();
        due.holds("one made ahead of another", Whole.of(early).equals(Whole.of(new SeenLand())));
        due.holds("one made behind another", Whole.of(late).equals(Whole.of(new SeenLand())));
    }

    /** Everything an image keeps is made otherwise. */
    private static void changeAll(SeenLand x) {
        Due.read(x, "sea 0 to 23 high 44 age 45;house 1 floor 2;haze 3;rate 4");
        x.floor(0, 33);
        x.windows(0, 0);
        for (int spot = 0; spot < 10; spot++) {
            x.hold(spot, 9 - spot);
        }
        x.seed(5);
        x.years(6);
    }

    private static SeenLand busyWithoutTape() {
        SeenLand x = Made.busy();
        x.wipe();
        return x;
    }

    private static void imageKeepsAllButTapeAndSheets() {
        due.begin("49 image: all but THE TAPE and SHEETS is kept: 1");
        busy.answers("image()", 1, x -> x.image());
        new Edges(due, ImagesEdgesTest::justKept).tells("undo() behind other things", 4, x -> {
            changeAll(x);
            return x.undo();
        });
        SeenLand x = busyWithoutTape();
        x.image();
        Due.feed(x, "rate 88");
        Made.writeSheet(x, 0, 32, 12);
        x.sheet(1, 0, 0);
        x.sheet(3, 8, 2);
        x.undo();
        due.is("THE TAPE has what came later", x.count(4), 7);
        due.is("which is a text", x.text(), 1);
        due.is("of that rate", x.law(1, 10), 88);
        due.is("a SHEET that was made anew", x.load(0, 0), 1);
        due.is("one that is MISSING now", x.load(1, 0), Due.MISSING);
        due.is("one that was MISSING", x.load(3, 0), 2);
    }

    private static SeenLand justKept() {
        SeenLand x = busyWithoutTape();
        x.image();
        return x;
    }

    private static void imageKeepsNoStatus() {
        due.begin("53 status: undo() takes none back");
        SeenLand x = new SeenLand();
        x.image();
        x.sight(0);
        x.as(0, 0);
        x.undo();
        due.is("all", x.status(-1), 2);
        due.is("BEYOND", x.status(0), 1);
        due.is("MISSING", x.status(5), 1);
        x.image();
        x.undo();
        x.tear();
        due.is("nor does image() or tear()", x.status(-1), 2);
    }

    private static void imageIsTheLatest() {
        due.begin("50 undo: it becomes what was kept latest");
        SeenLand x = new SeenLand();
        for (int kind = 1; kind <= 6; kind++) {
            x.set(0, kind);
            x.image();
        }
        x.set(0, 0);
        x.undo();
        due.is("the sixth", x.cellOf(0, 0), 6);
    }

    private static void undoIsNone() {
        due.begin("50 undo: NONE: nothing is kept");
        bare.refuses("at first", Due.NONE, x -> x.undo());
        new Edges(due, () -> {
            SeenLand x = Made.busy();
            x.tear();
            return x;
        }).refuses("behind tear()", Due.NONE, x -> x.undo());
    }

    private static void undoStays() {
        due.begin("50 undo: (which stays): YEAR");
        SeenLand x = Made.busy();
        for (int i = 0; i < 3; i++) {
            due.is("undo() " + i, x.undo(), 4);
            due.is("as it was kept", x.cellOf(0, 1), 0);
            x.cell(0, 0, 7 + i);
            x.years(60);
        }
        SeenLand late = new SeenLand();
        Due.goTo(late, 999);
        late.image();
        due.is("at 999", late.undo(), 999);
        SeenLand early = new SeenLand();
        early.image();
        early.years(60);
        due.is("at 0", early.undo(), 0);
        due.is("years go again", early.years(60), 60);
    }

    private static void undoTakesHousesBack() {
        due.begin("50 undo: HOUSES become those that were kept");
        SeenLand x = new SeenLand();
        x.image();
        for (int h = 0; h < 8; h++) {
            x.house(h, 1);
        }
        x.undo();
        due.is("none", x.count(1), 0);
        due.is("houseOf(0, 0)", x.houseOf(0, 0), Due.BEYOND);
        due.is("there is room again", x.house(9, 9), 0);
        SeenLand full = Made.eightHouses();
        full.image();
        due.is("still full", full.undo(), 0);
        due.is("a ninth", full.house(0, 1), Due.FULL);
    }

    private static void tearIsNoneAndSome() {
        due.begin("51 tear: 1 if something was, else 0");
        bare.tells("nothing was", 0, x -> x.tear());
        busy.answers("something was", 1, x -> x.tear());
        busy.answers("nothing behind it", 0, x -> {
            x.tear();
            return x.tear();
        });
        busy.answers("two images are torn by one", 0, x -> {
            x.image();
            x.image();
            x.tear();
            return x.tear();
        });
        busy.answers("one kept again", 1, x -> {
            x.tear();
            x.image();
            return x.tear();
        });
    }

    private static void tearLeavesAll() {
        due.begin("51 tear: nothing is kept");
        SeenLand x = Made.busy();
        x.tear();
        due.is("height stays", x.cellOf(0, 1), 6);
        due.is("houses stay", x.count(1), 3);
        due.is("floor stays", x.houseOf(0, 1), 4);
        due.is("z stays", x.count(5), 78);
        due.is("spots stay", x.count(6), 3);
        due.is("THE TAPE stays", x.count(4), 14);
    }

    private static void countTakesAWhat() {
        due.begin("52 count: BEYOND: another what");
        busy.ends("count(#)", 0, 6, (x, v) -> x.count(v), 4, 3);
        int[] want = {4, 3, 34, 17, 14, 78, 3};
        for (int what = 0; what < want.length; what++) {
            int w = what;
            busy.tells("count(" + w + ")", want[w], x -> x.count(w));
        }
    }

    private static void countIsEmptyAndFull() {
        due.begin("52 count: nothing and all");
        SeenLand x = Made.eightHouses();
        Due.goTo(x, 999);
        Due.feed(x, " ".repeat(120));
        x.seed(Integer.MIN_VALUE);
        for (int spot = 0; spot < 10; spot++) {
            x.hold(spot, 0);
        }
        int[] full = {999, 8, 8 * 23, 24, 120, Integer.MIN_VALUE, 10};
        for (int what = 0; what < full.length; what++) {
            due.is("count(" + what + ") when full", x.count(what), full[what]);
        }
        x.law(1, 0);
        x.wipe();
        for (int h = 0; h < 8; h++) {
            x.windows(h, 0);
        }
        for (int spot = 0; spot < 10; spot++) {
            x.hold(spot, -1);
        }
        int[] less = {999, 8, 0, 8, 0, Integer.MIN_VALUE, 0};
        for (int what = 0; what < less.length; what++) {
            due.is("count(" + what + ") when emptied", x.count(what), less[what]);
        }
    }

    private static void statusTakesAWhich() {
        due.begin("53 status: which -1: all, 0 to 6: BEYOND to SIZE. BEYOND: another one");
        busy.ends("status(#)", -1, 6, (x, v) -> x.status(v), 0, 0);
        for (int which = -1; which <= 6; which++) {
            int w = which;
            busy.tells("status(" + w + ")", 0, x -> x.status(w));
        }
    }

    private static void statusCountsEachFinding() {
        due.begin("53 status: how many acts answered a finding ever");
        Edges.Act[] acts = {x -> x.tax(8), x -> x.house(0, 1), x -> x.as(0, 1), x -> x.undo(), x -> x.hidden(0, 0),
            x -> x.load(0, 0), x -> x.sheet(0, 8, -1)};
        for (int finding = 0; finding < acts.length; finding++) {
            SeenLand x = Made.eightHouses();
            x.hold(0, 0);
            for (int i = 0; i <= finding; i++) {
                due.is("act " + finding, acts[finding].on(x), Due.BEYOND - finding);
            }
            for (int which = 0; which <= 6; which++) {
                due.is("status(" + which + ")", x.status(which), which == finding ? finding + 1 : 0);
            }
            due.is("all", x.status(-1), finding + 1);
        }
    }

    private static void statusCountsFromThenOn() {
        due.begin("53 status: BEYOND (counted from then on): another one");
        SeenLand x = new SeenLand();
        int[] others = {-2, 7, Integer.MIN_VALUE, Integer.MAX_VALUE};
        for (int i = 0; i < others.length; i++) {
            due.is("ahead of it", x.status(0), i);
            due.is("status(" + others[i] + ")", x.status(others[i]), Due.BEYOND);
            due.is("behind it", x.status(0), i + 1);
            due.is("all behind it", x.status(-1), i + 1);
        }
    }

    private static void statusIsTakenBackByNothing() {
        due.begin("53 status: a FAULT and a -1 are no findings");
        SeenLand x = new SeenLand();
        Due.read(x, "no text");
        x.text();
        x.seed(Due.SIZE);
        x.seed(1);
        due.is("none", x.status(-1), 0);
    }
}
