/** Promises 12 to 16: sights. */
public final class SightsTest {
    private static final Due due = new Due();
    private static final int EVERY = (1 << 24) - 1;

    public static void main(String[] args) {
        promise12();
        promise12Lines();
        promise13();
        promise14();
        promise15();
        promise16();
        due.end();
    }

    private static void promise12() {
        due.begin("promise 12");
        SeenLand x = Due.flatWithHouse(10, 1);
        due.is("flat", x.sight(0), EVERY);
        x.cell(12, 0, 1);
        due.is("behind a top as high as the eye", x.sight(0), 8191);
        x.cell(13, 0, 1);
        due.is("a second one as high", x.sight(0), 8191);
        x.cell(13, 0, 2);
        due.is("a second one that is higher", x.sight(0), 8191 + 8192);
        x.law(0, 2);
        due.is("haze 2", x.sight(0), 7936);
        x.windows(0, 1);
        due.is("haze 2, west", x.sight(0), 1792);
        x.windows(0, 2);
        due.is("haze 2, east", x.sight(0), 7168);
        x.windows(0, 0);
        due.is("both walled", x.sight(0), 1024);
        due.is("sight(-1)", x.sight(-1), Due.BEYOND);
        due.is("sight(1)", x.sight(1), Due.BEYOND);
        due.is("at the west end", Due.flatWithHouse(0, 40).sight(0), EVERY);
        due.is("at the east end", Due.flatWithHouse(23, 40).sight(0), EVERY);
    }

    private static void promise12Lines() {
        due.begin("promise 12, lines");
        due.is("fractions are not cut", Due.flatWithHouse(0, 10).sight(0), EVERY);
        SeenLand x = Due.flatWithHouse(0, 2);
        x.cell(1, 0, 1);
        due.is("on one line", x.sight(0), EVERY - 4);
        SeenLand mirrored = Due.flatWithHouse(23, 2);
        mirrored.cell(22, 0, 1);
        due.is("on one line, to the west", mirrored.sight(0), EVERY - (1 << 21));
        x.set(1, 3);
        due.is("a sea hides nothing", x.sight(0), EVERY);
        x.set(1, 6);
        x.cell(1, 0, 0);
        x.cell(1, 1, 40);
        due.is("an elm hides all", x.sight(0), 3);
        x.cell(2, 0, 98);
        due.is("even what is higher, but no steeper", x.sight(0), 3);
        x.cell(2, 0, 99);
        due.is("not what is steeper", x.sight(0), 7);
        x.cell(2, 0, 98);
        x.cell(1, 1, 30);
        due.is("a younger one does not", x.sight(0), 7);
    }

    private static void promise13() {
        due.begin("promise 13");
        SeenLand x = Due.flatWithHouse(10, 1);
        x.cell(12, 0, 1);
        due.is("sees(0, 12)", x.sees(0, 12), 1);
        due.is("sees(0, 13)", x.sees(0, 13), 0);
        due.is("sees(0, 0)", x.sees(0, 0), 1);
        x.windows(0, 0);
        due.is("its own", x.sees(0, 10), 1);
        due.is("next to it, walled", x.sees(0, 9), 0);
        due.is("sees(1, 0)", x.sees(1, 0), Due.BEYOND);
        due.is("sees(-1, 0)", x.sees(-1, 0), Due.BEYOND);
        due.is("sees(0, 24)", x.sees(0, 24), Due.BEYOND);
        due.is("sees(0, -1)", x.sees(0, -1), Due.BEYOND);
    }

    private static void promise14() {
        due.begin("promise 14");
        SeenLand x = Due.flatWithHouse(10, 1);
        x.house(20, 1);
        x.windows(1, 0);
        due.is("seenBy(20)", x.seenBy(20), 3);
        due.is("seenBy(0)", x.seenBy(0), 1);
        x.windows(0, 2);
        due.is("seenBy(0), walled", x.seenBy(0), 0);
        due.is("seenBy(-1)", x.seenBy(-1), Due.BEYOND);
        due.is("seenBy(24)", x.seenBy(24), Due.BEYOND);
    }

    private static void promise15() {
        due.begin("promise 15");
        SeenLand x = Due.flatWithHouse(10, 1);
        x.house(20, 1);
        x.house(10, 5);
        due.is("neighbours(0)", x.neighbours(0), 6);
        due.is("neighbours(1)", x.neighbours(1), 5);
        x.windows(0, 1);
        due.is("on the same cell alone", x.neighbours(0), 4);
        due.is("neighbours(3)", x.neighbours(3), Due.BEYOND);
        due.is("neighbours(-1)", x.neighbours(-1), Due.BEYOND);
    }

    private static void promise16() {
        due.begin("promise 16");
        SeenLand x = Due.flatWithHouse(10, 1);
        x.cell(12, 0, 5);
        x.cell(13, 0, 9);
        due.is("behind both", x.hidden(0, 20), 12);
        x.cell(14, 0, 9);
        due.is("on the line of the nearer", x.hidden(0, 14), 12);
        x.cell(14, 0, 10);
        due.is("above the line of the nearer", x.hidden(0, 14), 13);
        due.is("it is seen", x.hidden(0, 13), Due.NONE);
        due.is("next to it", x.hidden(0, 11), Due.NONE);
        x.cell(8, 0, 1);
        due.is("to the west", x.hidden(0, 5), 8);
        x.cell(7, 0, 5);
        due.is("farther to the west", x.hidden(0, 6), 8);
        x.cell(8, 0, 0);
        due.is("by one at an odd place", x.hidden(0, 6), 7);
        x.cell(9, 0, 40);
        due.is("by the next one", x.hidden(0, 7), 9);
        x.cell(9, 0, 0);
        x.cell(8, 0, 1);
        due.is("its own", x.hidden(0, 10), Due.STATE);
        x.windows(0, 1);
        due.is("that window is walled", x.hidden(0, 20), Due.STATE);
        due.is("walled, though next to it", x.hidden(0, 11), Due.STATE);
        due.is("the other one isn't", x.hidden(0, 5), 8);
        x.windows(0, 2);
        due.is("west is walled", x.hidden(0, 5), Due.STATE);
        x.law(0, 4);
        due.is("no farther than haze", x.hidden(0, 14), 13);
        x.law(0, 3);
        due.is("farther than haze", x.hidden(0, 14), Due.STATE);
        due.is("hidden(1, 0)", x.hidden(1, 0), Due.BEYOND);
        due.is("hidden(-1, 0)", x.hidden(-1, 0), Due.BEYOND);
        due.is("hidden(0, 24)", x.hidden(0, 24), Due.BEYOND);
        due.is("hidden(0, -1)", x.hidden(0, -1), Due.BEYOND);
    }
}
