/** Promises 39 to 41: texts. */
public final class TextsTest {
    private static final Due due = new Due();

    public static void main(String[] args) {
        promise39();
        promise40();
        promise41Items();
        promise41Tokens();
        promise41Faults();
        promise41Ends();
        promise41Houses();
        due.end();
    }

    private static void promise39() {
        due.begin("promise 39");
        SeenLand x = new SeenLand();
        due.is("feed, 3", x.feed(0x7f726174, 3), 3);
        due.is("feed, 1", x.feed(0x12345665, 1), 4);
        due.is("feed, 4", x.feed(0x20202037, 4), 8);
        due.is("feed, 2", x.feed(0x3720, 2), 10);
        due.is("the bytes are a text", x.text(), 1);
        due.is("rate", x.law(1, 10), 77);
        due.is("feed(0, 0)", x.feed(0, 0), Due.BEYOND);
        due.is("feed(0, 5)", x.feed(0, 5), Due.BEYOND);
        due.is("feed(0, -1)", x.feed(0, -1), Due.BEYOND);
        for (int i = 1; i <= 29; i++) {
            due.is("feed " + i, x.feed(-1, 4), 4 * i);
        }
        due.is("up to 118", x.feed(0, 2), 118);
        due.is("3 more", x.feed(0, 3), Due.FULL);
        due.is("nothing came", x.count(4), 118);
        due.is("2 more", x.feed(0, 2), 120);
        due.is("one more", x.feed(0, 1), Due.FULL);
        due.is("5 more", x.feed(0, 5), Due.BEYOND);
        due.is("count(4)", x.count(4), 120);
    }

    private static void promise40() {
        due.begin("promise 40");
        SeenLand x = new SeenLand();
        due.is("wipe() at first", x.wipe(), 0);
        Due.feed(x, "land");
        due.is("wipe()", x.wipe(), 4);
        due.is("wipe() again", x.wipe(), 0);
        due.is("feed behind it", x.feed(0, 1), 1);
    }

    private static void cellIs(SeenLand x, int cell, int kind, int height, int age) {
        due.is("kind of " + cell, x.cellOf(cell, 0), kind);
        due.is("height of " + cell, x.cellOf(cell, 1), height);
        due.is("age of " + cell, x.cellOf(cell, 2), age);
    }

    private static void promise41Items() {
        due.begin("promise 41, items");
        SeenLand x = new SeenLand();
        x.cell(3, 0, 9);
        x.cell(3, 1, 8);
        due.is("things", Due.read(x, "land 0;water 1;field 2;sea 3;roof 4;wood 5;elm 6"), 7);
        for (int c = 0; c < 7; c++) {
            cellIs(x, c, c, c == 3 ? 9 : 0, 0);
        }
        due.is("tape is empty", x.count(4), 0);
        due.is("a row", Due.read(x, "elm 20 to 23 high 99 age 99;water 21 to 21 high 0"), 2);
        cellIs(x, 19, 0, 0, 0);
        cellIs(x, 20, 6, 99, 99);
        cellIs(x, 21, 1, 0, 0);
        cellIs(x, 23, 6, 99, 99);
        due.is("the last cell, an age of 0", Due.read(x, "sea 23 age 0"), 1);
        cellIs(x, 23, 3, 99, 0);
        due.is("age alone", Due.read(x, "wood 22 age 7"), 1);
        cellIs(x, 22, 5, 99, 7);
        due.is("laws", Due.read(x, "haze 23;rate 0;haze 1;rate 99"), 4);
        due.is("haze", x.law(0, 23), 1);
        due.is("rate", x.law(1, 10), 99);
        due.is("houses", Due.read(x, "house 0 floor 1;house 23 floor 40 blind west;house 5 floor 6 blind east"), 3);
        int[][] houses = {{0, 1, 3}, {23, 40, 2}, {5, 6, 1}};
        for (int h = 0; h < houses.length; h++) {
            due.is("cell of house " + h, x.houseOf(h, 0), houses[h][0]);
            due.is("floor of house " + h, x.houseOf(h, 1), houses[h][1]);
            due.is("windows of house " + h, x.houseOf(h, 3), houses[h][2]);
        }
        due.is("no findings", x.status(-1), 0);
    }

    private static void promise41Tokens() {
        due.begin("promise 41, tokens");
        SeenLand x = new SeenLand();
        due.is("without blanks", Due.read(x, "elm3to4high5age6;house0floor1blindwest"), -1 - 29);
        due.is("but one", Due.read(x, "elm3to4high5age6;house0floor1blind west"), 2);
        cellIs(x, 4, 6, 5, 6);
        due.is("with many", Due.read(x, "  elm   5  ;  rate   3  "), 2);
        due.is("zeros ahead", Due.read(x, "rate 00000000000099"), 1);
        due.is("rate", x.law(1, 10), 99);
        due.is("a number that passes every int", Due.read(x, "rate 4294967299"), -1 - 5);
        due.is("1000", Due.read(x, "rate 1000"), -1 - 5);
        due.is("999", Due.read(x, "rate 999"), -1 - 5);
        due.is("a tab", Due.read(x, "rate\t5"), -1 - 4);
        due.is("a capital", Due.read(x, "Rate 5"), -1);
        due.is("a word that goes on", Due.read(x, "rates 5"), -1);
        due.is("a word cut short", Due.read(x, "rat 5"), -1);
        due.is("a word with another begin", Due.read(x, "sand 5"), -1);
        due.is("a word with another end", Due.read(x, "lane 5"), -1);
        due.is("a word with a capital within", Due.read(x, "ratE 5"), -1);
        due.is("a sign less than a", Due.read(x, "rate 5`"), -1 - 6);
        due.is("a sign above z", Due.read(x, "rate 5{"), -1 - 6);
        due.is("a sign less than 0", Due.read(x, "rate /"), -1 - 5);
        due.is("a sign above 9", Due.read(x, "rate :"), -1 - 5);
        due.is("a byte above 127", Due.read(x, "rate 5" + (char) 0xe9), -1 - 6);
        due.is("a byte 0", Due.read(x, "rate 5" + (char) 0), -1 - 6);
        due.is("rate stays", x.law(1, 10), 10);
    }

    private static void promise41Faults() {
        due.begin("promise 41, faults");
        SeenLand x = new SeenLand();
        String[] texts = {"hill 3", "3", ";", "land land", "land ;", "land 24", "land 5 to 4", "land 5 to 24",
            "land 5 to high 3", "land 5 high 100", "land 5 high age", "land 5 age 100", "land 5 age 3 high 3",
            "land 5 high 3 to 7", "land 5 age 3 age 4", "land 5 6", "land 5 floor 3", "land 5;;land 6",
            "house 24 floor 1", "house 3 level 1", "house 3 4", "house 3 floor 0", "house 3 floor 41",
            "house 3 floor 1 west", "house 3 floor 1 blind both", "house 3 floor 1 blind west east",
            "house 3 floor 1 blind west blind east", "house 3 floor 1 high 3", "haze 0", "haze 24", "haze haze",
            "rate 100", "rate -1", "rate 3 4", "rate 5 land 3", "land 3 high 7;rate 3;haze 0", "to 5", "west"};
        int[] faults = {0, 0, 0, 5, 5, 5, 10, 10,
            10, 12, 12, 11, 13,
            14, 13, 7, 7, 7,
            6, 8, 8, 14, 14,
            16, 22, 27,
            27, 16, 5, 5, 5,
            5, 5, 7, 7, 26, 0, 0};
        for (int i = 0; i < texts.length; i++) {
            due.is(texts[i], Due.read(x, texts[i]), -1 - faults[i]);
            due.is("tape is empty behind " + texts[i], x.count(4), 0);
        }
        for (int c = 0; c < 24; c++) {
            cellIs(x, c, 0, 0, 0);
        }
        due.is("no houses", x.count(1), 0);
        due.is("rate stays", x.law(1, 10), 10);
        due.is("haze stays", x.law(0, 23), 23);
        due.is("no findings", x.status(-1), 0);
    }

    private static void promise41Ends() {
        due.begin("promise 41, ends");
        SeenLand x = new SeenLand();
        String[] texts = {"", "   ", "land", "land  ", "land 5 to", "land 5 high", "land 5 age", "land 5;",
            "land 5 ; ", "house", "house 3", "house 3 floor", "house 3 floor 1 blind", "haze", "rate "};
        for (String text : texts) {
            due.is("'" + text + "'", Due.read(x, text), -1 - text.length());
        }
        StringBuilder whole = new StringBuilder("land 5");
        while (whole.length() < 119) {
            whole.append(' ');
        }
        due.is("119 bytes", Due.read(x, whole.toString()), 1);
        due.is("120 bytes", Due.read(x, whole + ";"), -121);
    }

    private static void promise41Houses() {
        due.begin("promise 41, houses");
        SeenLand x = new SeenLand();
        String six = "house0floor1;house0floor1;house0floor1;house0floor1;house0floor1;house0floor1";
        due.is("six", Due.read(x, six), 6);
        due.is("two more and one", Due.read(x, "rate 5;house 1 floor 1;house 2 floor 2;house 3 floor 3"), -1 - 39);
        due.is("six stay", x.count(1), 6);
        due.is("rate stays", x.law(1, 10), 10);
        due.is("two more", Due.read(x, "house 1 floor 1;house 2 floor 2"), 2);
        due.is("a 9th, its word alone", Due.read(x, " house"), -2);
        due.is("other items go on", Due.read(x, "rate 5"), 1);
        due.is("eight", x.count(1), 8);
        due.is("the eighth", x.houseOf(7, 0), 2);
    }
}
