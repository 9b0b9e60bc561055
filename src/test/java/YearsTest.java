/** Promises 33 to 38: years. */
public final class YearsTest {
    private static final Due due = new Due();

    public static void main(String[] args) {
        promise33();
        promise34();
        promise35();
        promise36();
        promise37();
        promise38();
        due.end();
    }

    /** A wood of age 0 next to the house, as high as its eye in a year. */
    private static SeenLand byAWood() {
        SeenLand x = new SeenLand();
        x.house(10, 1);
        x.set(11, 5);
        return x;
    }

    private static void promise33() {
        due.begin("promise 33");
        SeenLand x = new SeenLand();
        x.cell(0, 1, 98);
        due.is("years(1)", x.years(1), 1);
        due.is("age", x.cellOf(0, 2), 99);
        due.is("years(60)", x.years(60), 61);
        due.is("age, 99 at most", x.cellOf(0, 2), 99);
        due.is("age of another", x.cellOf(23, 2), 61);
        due.is("years(0)", x.years(0), Due.BEYOND);
        due.is("years(-1)", x.years(-1), Due.BEYOND);
        due.is("years(61)", x.years(61), Due.BEYOND);
        Due.goTo(x, 940);
        due.is("years(60) at 940", x.years(60), Due.STATE);
        due.is("year stays", x.count(0), 940);
        due.is("years(59) at 940", x.years(59), 999);
        due.is("years(1) at 999", x.years(1), Due.STATE);
        due.is("years(0) at 999", x.years(0), Due.BEYOND);
        due.is("years(61) at 999", x.years(61), Due.BEYOND);
        SeenLand elm = new SeenLand();
        elm.set(4, 6);
        elm.years(40);
        due.is("it grows", elm.cellOf(4, 3), 50);
    }

    private static void promise34() {
        due.begin("promise 34");
        SeenLand x = byAWood();
        x.house(12, 1);
        due.is("all now", x.ahead(0, 0), 46);
        due.is("one now", x.ahead(0, 1), 23);
        due.is("all in a year", x.ahead(1, 0), 11 + 12);
        due.is("the first in a year", x.ahead(1, 1), 11);
        due.is("the second in a year", x.ahead(1, 2), 12);
        due.is("age stays", x.cellOf(11, 2), 0);
        due.is("year stays", x.count(0), 0);
        due.is("ahead(0, 3)", x.ahead(0, 3), Due.BEYOND);
        due.is("ahead(0, -1)", x.ahead(0, -1), Due.BEYOND);
        due.is("ahead(-1, 0)", x.ahead(-1, 0), Due.BEYOND);
        due.is("ahead(61, 0)", x.ahead(61, 0), Due.BEYOND);
        Due.goTo(x, 940);
        due.is("ahead(60, 0) at 940", x.ahead(60, 0), Due.STATE);
        due.is("ahead(60, 3) at 940", x.ahead(60, 3), Due.BEYOND);
        due.is("ahead(59, 0) at 940", x.ahead(59, 0), 23);
    }

    /** An elm that is as high as the eye in 60 years, and hides what is behind it from then on. */
    private static SeenLand byAnElm() {
        SeenLand x = new SeenLand();
        Due.read(x, "land 10 high 20;house 10 floor 40;elm 11;land 12 high 59");
        return x;
    }

    private static void promise35() {
        due.begin("promise 35");
        SeenLand x = byAWood();
        due.is("in a year", x.lost(0, 12), 1);
        due.is("never", x.lost(0, 11), Due.NONE);
        due.is("its own", x.lost(0, 10), Due.NONE);
        x.floor(0, 30);
        due.is("the farthest, by a wood that grows on", x.lost(0, 23), 28);
        x.floor(0, 31);
        due.is("over one that is 30 high at most", x.lost(0, 23), 29);
        x.floor(0, 40);
        due.is("never, from above", x.lost(0, 23), Due.NONE);
        due.is("year stays", x.count(0), 0);
        x.windows(0, 1);
        due.is("it isn't seen", x.lost(0, 12), 0);
        due.is("lost(1, 0)", x.lost(1, 0), Due.BEYOND);
        due.is("lost(-1, 0)", x.lost(-1, 0), Due.BEYOND);
        due.is("lost(0, 24)", x.lost(0, 24), Due.BEYOND);
        due.is("lost(0, -1)", x.lost(0, -1), Due.BEYOND);
        Due.goTo(x, 939);
        due.is("at 939", x.lost(0, 12), 0);
        due.is("never at 939", x.lost(0, 9), Due.NONE);
        x.years(1);
        due.is("at 940", x.lost(0, 12), Due.STATE);
        due.is("in 60 years", byAnElm().lost(0, 12), 60);
        due.is("beyond at 940", x.lost(0, 24), Due.BEYOND);
    }

    private static void promise36() {
        due.begin("promise 36");
        SeenLand x = byAWood();
        due.is("in a year", x.when(0), 1);
        x.floor(0, 4);
        due.is("when it hides all", x.when(0), 4);
        x.set(11, 0);
        x.set(10, 5);
        due.is("now, as the eye grows", x.when(0), 0);
        due.is("in 60 years", byAnElm().when(0), 60);
        due.is("when(1)", x.when(1), Due.BEYOND);
        due.is("when(-1)", x.when(-1), Due.BEYOND);
        Due.goTo(x, 939);
        due.is("at 939", x.when(0), 0);
        x.years(1);
        due.is("at 940", x.when(0), Due.STATE);
        due.is("beyond at 940", x.when(1), Due.BEYOND);
    }

    private static void promise37() {
        due.begin("promise 37");
        SeenLand x = new SeenLand();
        x.cell(12, 0, 99);
        x.cell(0, 0, 50);
        due.is("quake(1)", x.quake(1), 32 + 99 + 50);
        due.is("the first cell", x.cellOf(14, 1), 32);
        due.is("quake(2)", x.quake(2), 71 + 50);
        due.is("the second cell", x.cellOf(12, 1), 3);
        due.is("the third cell", x.cellOf(7, 1), 36);
        due.is("its top", x.cellOf(7, 3), 36);
        SeenLand ten = new SeenLand();
        due.is("ten, one of them twice", ten.quake(10), 231);
        due.is("struck twice", ten.cellOf(18, 1), 9);
        due.is("z", ten.count(5), -471937619);
        due.is("quake(0)", ten.quake(0), Due.BEYOND);
        due.is("quake(-1)", ten.quake(-1), Due.BEYOND);
        due.is("quake(11)", ten.quake(11), Due.BEYOND);
        due.is("z stays", ten.count(5), -471937619);
    }

    private static void promise38() {
        due.begin("promise 38");
        SeenLand x = new SeenLand();
        due.is("seed(-1000001)", x.seed(-1000001), 1);
        due.is("quake(2)", x.quake(2), 117);
        x.seed(Due.BEYOND);
        due.is("what was", x.seed(Integer.MIN_VALUE), Due.BEYOND);
        due.is("count(5)", x.count(5), Integer.MIN_VALUE);
        due.is("no finding", x.status(-1), 0);
    }
}
