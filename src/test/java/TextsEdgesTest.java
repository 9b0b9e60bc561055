/** The edges that promises 39 to 41 and the terms of TEXTS name. */
public final class TextsEdgesTest {
    private static final Due due = new Due();
    private static final Edges busy = new Edges(due, Made::busy);
    private static final Edges bare = new Edges(due, SeenLand::new);
    private static final String[] THINGS = {"land", "water", "field", "sea", "roof", "wood", "elm"};

    public static void main(String[] args) {
        feedTakesOneToFourBytes();
        feedIsFullWith120();
        feedAsksBeyondAheadOfFull();
        feedTakesTheLowestBytes();
        wipeIsNoneAndAll();
        textOfNothingEndsTooEarly();
        textMayBe120BytesLong();
        textEmptiesTheTape();
        wordsAreOfLettersAToZ();
        numbersAreRowsOfDigits();
        numbersAre999AtMost();
        blanksMayStandBetween();
        bytesThatBeginNoToken();
        tokensAreAsLongAsCanBe();
        itemsAreParted();
        thingsTakeACell();
        thingsTakeARow();
        thingsTakeAHeight();
        thingsTakeAnAge();
        thingsHaveTheirOrder();
        housesTakeACellAndAFloor();
        housesMayBeBlind();
        housesAreEightAtMost();
        hazeTakesANumber();
        rateTakesANumber();
        wordsThatCantStandThere();
        textsThatEndTooEarly();
        faultsChangeNothing();
        itemsAreToldOneBehindTheOther();
        due.end();
    }

    /** The text is right: it has so many items. */
    private static void reads(String text, int items) {
        due.is("'" + text + "'", Due.read(new SeenLand(), text), items);
    }

    /** The text has a fault at a place. */
    private static void fails(String text, int fault) {
        SeenLand x = new SeenLand();
        due.is("'" + text + "'", Due.read(x, text), -1 - fault);
        due.is("status(-1) behind '" + text + "'", x.status(-1), 0);
    }

    /** A number behind a text may be from low to high; others fail at its own place. */
    private static void numberEnds(String ahead, int low, int high, String behind) {
        reads(ahead + low + behind, 1);
        reads(ahead + high + behind, 1);
        if (low > 0) {
            fails(ahead + (low - 1) + behind, ahead.length());
        }
        for (int v : new int[] {high + 1, 999, 1000}) {
            fails(ahead + v + behind, ahead.length());
        }
        fails(ahead + "-1" + behind, ahead.length());
        fails(ahead + "2147483648" + behind, ahead.length());
        fails(ahead + "4294967297" + behind, ahead.length());
        fails(ahead + "18446744073709551617" + behind, ahead.length());
    }

    private static void feedTakesOneToFourBytes() {
        due.begin("39 feed: BEYOND: n");
        busy.ends("feed(0, #)", 1, 4, (x, v) -> x.feed(0, v), 15, 18);
    }

    private static void feedIsFullWith120() {
        due.begin("39 feed: FULL (THE TAPE has at most 120 bytes)");
        for (int n = 1; n <= 4; n++) {
            int m = n;
            new Edges(due, () -> Made.withBytes(120 - m)).answers(m + " more make 120", 120, x -> x.feed(0x20202020, m));
            new Edges(due, () -> Made.withBytes(121 - m)).refuses(m + " more make 121", Due.FULL, x -> x.feed(0x20202020, m));
            new Edges(due, () -> Made.withBytes(120)).refuses(m + " behind 120", Due.FULL, x -> x.feed(0x20202020, m));
        }
    }

    private static void feedAsksBeyondAheadOfFull() {
        due.begin("39 feed: BEYOND is asked ahead of FULL");
        new Edges(due, () -> Made.withBytes(120)).refusesEach("feed(0, #) behind 120", Due.BEYOND, (x, v) -> x.feed(0, v),
            0, 5, -1, Integer.MIN_VALUE, Integer.MAX_VALUE);
    }

    private static void feedTakesTheLowestBytes() {
        due.begin("39 feed: the n lowest bytes of a number, the highest of these first");
        int[][] rows = {{0x72617465, 4}, {0x80ffff20, 1}, {0xffff3031, 2}, {0xff20203b, 3}, {0x80726174, 3}, {0xffffff65, 1},
            {0x7fff2037, 2}};
        SeenLand x = new SeenLand();
        int size = 0;
        for (int[] row : rows) {
            size += row[1];
            due.is("how many it has", x.feed(row[0], row[1]), size);
        }
        due.is("rate 01  ;rate 7", x.text(), 2);
        due.is("rate", x.law(1, 10), 7);
        bare.answers("the least int", 4, y -> y.feed(Integer.MIN_VALUE, 4));
        bare.answers("the greatest int", 4, y -> y.feed(Integer.MAX_VALUE, 4));
        bare.answers("bytes with their sign are none of a text", -1, y -> {
            y.feed(-1, 4);
            return y.text();
        });
        bare.answers("the lowest byte of the least int is 0", -1, y -> {
            y.feed(Integer.MIN_VALUE, 1);
            return y.text();
        });
    }

    private static void wipeIsNoneAndAll() {
        due.begin("40 wipe: how many it had");
        bare.tells("none", 0, x -> x.wipe());
        for (int bytes : new int[] {7, 119, 120}) {
            SeenLand x = Made.withBytes(bytes);
            due.is("all " + bytes, x.wipe(), bytes);
            due.is("empty then", x.count(4), 0);
            due.is("none is left to read", x.text(), -1);
            due.is("there is room again", x.feed(0, 4), 4);
        }
    }

    private static void textOfNothingEndsTooEarly() {
        due.begin("41 text: how many bytes there are (blanks, too) if it ends too early");
        fails("", 0);
        fails(" ", 1);
        fails(" ".repeat(120), 120);
        fails("rate", 4);
        fails("rate  ", 6);
        fails(Due.padded("rate 1;", 120), 120);
        fails(Due.padded("house 5 floor 5 blind", 119), 119);
    }

    private static void textMayBe120BytesLong() {
        due.begin("41 text: THE TAPE (bytes, at most 120)");
        reads(Due.padded("rate 57", 120), 1);
        reads(" ".repeat(114) + "rate 5", 1);
        fails(" ".repeat(114) + "rate ;", 119);
        fails(" ".repeat(115) + "rate ", 120);
        reads("haze1;".repeat(19) + "haze 1", 20);
        fails("haze1;".repeat(20), 120);
        reads("rate " + "0".repeat(115), 1);
        fails("rate " + "1".repeat(115), 5);
        fails("r".repeat(120), 0);
        fails(";".repeat(120), 0);
    }

    private static void textEmptiesTheTape() {
        due.begin("41 text: THE TAPE is empty then");
        for (String text : new String[] {"rate 5", "rate 5;", "!", ""}) {
            SeenLand x = new SeenLand();
            Due.read(x, text);
            due.is("behind '" + text + "'", x.count(4), 0);
            due.is("what follows is read alone", Due.read(x, "haze 5"), 1);
        }
    }

    private static void wordsAreOfLettersAToZ() {
        due.begin("TOKENS: WORDS (letters a to z)");
        fails("a", 0);
        fails("z", 0);
        fails("rate 5 a", 7);
        fails("rate 5 z", 7);
        fails("Rate 5", 0);
        fails("ratE 5", 0);
        fails("rate 5A", 6);
        fails("rate 5Z", 6);
        fails("rate 5`", 6);
        fails("rate 5{", 6);
        fails("ra te 5", 0);
        fails("rat 5", 0);
        fails("rates 5", 0);
        fails("arate 5", 0);
    }

    private static void numbersAreRowsOfDigits() {
        due.begin("TOKENS: NUMBERS (rows of digits)");
        reads("rate 0", 1);
        reads("rate 9", 1);
        reads("rate 90", 1);
        reads("rate 09", 1);
        fails("rate /", 5);
        fails("rate :", 5);
        fails("rate 5/", 6);
        fails("rate 5:", 6);
        fails("rate 5 0", 7);
        fails("rate +5", 5);
        fails("rate -5", 5);
        fails("5", 0);
        fails("5 rate", 0);
    }

    private static void numbersAre999AtMost() {
        due.begin("TOKENS: NUMBERS (.., 999 at most)");
        fails("rate 999", 5);
        fails("rate 1000", 5);
        fails("rate 0999", 5);
        fails("rate 5 999", 7);
        fails("rate 5 1000", 7);
        fails("999", 0);
        fails("1000", 0);
        reads("rate 0099", 1);
        fails("rate 00100", 5);
    }

    private static void blanksMayStandBetween() {
        due.begin("TEXTS: blanks (32) may stand between");
        reads("  rate  5  ;  haze  6  ", 2);
        reads("rate5;haze6", 2);
        reads("elm3to4high5age6", 1);
        reads("house3floor4blind east", 1);
        fails("house3floor4blindeast", 12);
        fails("rate\t5", 4);
        fails("rate\n5", 4);
        fails("rate " + (char) 31 + "5", 5);
        fails("rate !5", 5);
        fails("rate" + (char) 160 + "5", 4);
    }

    private static void bytesThatBeginNoToken() {
        due.begin("FAULT: a byte that begins no TOKEN");
        for (int b = 0; b < 256; b++) {
            boolean isLetter = b >= 'a' && b <= 'z';
            boolean isDigit = b >= '0' && b <= '9';
            if (isLetter || isDigit || b == ' ' || b == ';') {
                continue;
            }
            SeenLand x = new SeenLand();
            Due.feed(x, "rate 5;");
            x.feed(b, 1);
            due.is("byte " + b + " at 7", x.text(), -8);
            Due.feed(x, "rate 5 ");
            x.feed(b, 1);
            due.is("byte " + b + " behind a number", x.text(), -8);
        }
    }

    private static void tokensAreAsLongAsCanBe() {
        due.begin("TOKENS, each as long as can be");
        fails("landland 5", 0);
        fails("hazerate 5", 0);
        fails("land 5 tohigh 3", 7);
        fails("land 5 highage 3", 7);
        fails("rate 5haze 6", 6);
        fails("land 123", 5);
        fails("land 2 3", 7);
        fails("house 3 floor 4 blind westeast", 22);
    }

    private static void itemsAreParted() {
        due.begin("TEXT: ITEM { ; ITEM }");
        reads("rate 5", 1);
        reads("rate 5;rate 6", 2);
        fails(";", 0);
        fails(";rate 5", 0);
        fails("rate 5;", 7);
        fails("rate 5;;rate 6", 7);
        fails("rate 5 rate 6", 7);
        fails("rate;5", 4);
        fails("rate 5,rate 6", 6);
    }

    private static void thingsTakeACell() {
        due.begin("ITEM: land, water, .. a NUMBER (0 to 23)");
        for (int kind = 0; kind < THINGS.length; kind++) {
            numberEnds(THINGS[kind] + " ", 0, 23, "");
            for (int cell : new int[] {0, 23}) {
                SeenLand x = new SeenLand();
                x.set(cell, kind == 0 ? 1 : 0);
                Due.read(x, THINGS[kind] + " " + cell);
                due.is(THINGS[kind] + " " + cell, x.cellOf(cell, 0), kind);
                due.is("the next cell stays", x.cellOf(cell == 0 ? 1 : 22, 0), 0);
            }
        }
    }

    private static void thingsTakeARow() {
        due.begin("ITEM: perhaps to and a NUMBER (0 to 23, not less): all these CELLS get it");
        numberEnds("elm 0 to ", 0, 23, "");
        numberEnds("elm 7 to ", 7, 23, "");
        numberEnds("elm 23 to ", 23, 23, "");
        SeenLand x = Made.of("elm 7 to 9");
        for (int c = 0; c < 24; c++) {
            due.is("kind of " + c, x.cellOf(c, 0), c >= 7 && c <= 9 ? 6 : 0);
        }
        SeenLand all = Made.of("sea 0 to 23");
        for (int c = 0; c < 24; c++) {
            due.is("sea at " + c, all.cellOf(c, 0), 3);
        }
    }

    private static void thingsTakeAHeight() {
        due.begin("ITEM: perhaps high and a NUMBER (0 to 99: HEIGHT of all these)");
        numberEnds("wood 5 high ", 0, 99, "");
        numberEnds("wood 5 to 6 high ", 0, 99, " age 3");
        for (int high : new int[] {0, 99}) {
            SeenLand x = Made.of("land 0 to 23 high 50;wood 4 to 6 high " + high);
            for (int c = 0; c < 24; c++) {
                due.is("height of " + c, x.cellOf(c, 1), c >= 4 && c <= 6 ? high : 50);
            }
        }
        SeenLand without = Made.of("land 5 high 50;wood 5 age 3");
        due.is("without it HEIGHT stays", without.cellOf(5, 1), 50);
    }

    private static void thingsTakeAnAge() {
        due.begin("ITEM: perhaps age and a NUMBER (0 to 99; 0 without)");
        numberEnds("wood 5 age ", 0, 99, "");
        numberEnds("wood 5 to 6 high 7 age ", 0, 99, "");
        for (int age : new int[] {0, 99}) {
            SeenLand x = Made.of("land 0 to 23 age 50;wood 4 to 6 age " + age);
            for (int c = 0; c < 24; c++) {
                due.is("age of " + c, x.cellOf(c, 2), c >= 4 && c <= 6 ? age : 50);
            }
        }
        due.is("0 without", Made.of("wood 5 age 50;wood 5 high 3").cellOf(5, 2), 0);
        due.is("0 without, on all", Made.of("wood 5 to 6 age 50;wood 5 to 6").cellOf(6, 2), 0);
    }

    private static void thingsHaveTheirOrder() {
        due.begin("ITEM: perhaps to .., perhaps high .., perhaps age ..");
        fails("elm 5 age 3 high 4", 12);
        fails("elm 5 age 3 to 6", 12);
        fails("elm 5 high 3 to 6", 13);
        fails("elm 5 to 6 to 7", 11);
        fails("elm 5 high 6 high 7", 13);
        fails("elm 5 age 6 age 7", 12);
        fails("elm high 3", 4);
        fails("elm to 3", 4);
        fails("elm 5 floor 3", 6);
        fails("elm 5 blind west", 6);
        fails("elm 5 to to 6", 9);
        fails("elm 5 high high 6", 11);
        fails("elm 5 age age 6", 10);
    }

    private static void housesTakeACellAndAFloor() {
        due.begin("ITEM: house, a NUMBER (0 to 23), floor, a NUMBER (1 to 40)");
        numberEnds("house ", 0, 23, " floor 5");
        numberEnds("house 5 floor ", 1, 40, "");
        numberEnds("house 5 floor ", 1, 40, " blind east");
        SeenLand x = Made.of("house 0 floor 40;house 23 floor 1");
        int[][] want = {{0, 40, 40, 3}, {23, 1, 1, 3}};
        for (int h = 0; h < 2; h++) {
            for (int what = 0; what <= 3; what++) {
                due.is("houseOf(" + h + ", " + what + ")", x.houseOf(h, what), want[h][what]);
            }
        }
        fails("house floor 5", 6);
        fails("house 5 5", 8);
        fails("house 5 high 5", 8);
        fails("house 5;floor 5", 7);
        fails("house 5 to 6 floor 5", 8);
    }

    private static void housesMayBeBlind() {
        due.begin("ITEM: perhaps blind and west or east (that one is walled)");
        due.is("west is walled", Made.of("house 5 floor 5 blind west").houseOf(0, 3), 2);
        due.is("east is walled", Made.of("house 5 floor 5 blind east").houseOf(0, 3), 1);
        due.is("none is", Made.of("house 5 floor 5").houseOf(0, 3), 3);
        fails("house 5 floor 5 blind", 21);
        fails("house 5 floor 5 blind 1", 22);
        fails("house 5 floor 5 blind north", 22);
        fails("house 5 floor 5 blind;rate 5", 21);
        fails("house 5 floor 5 west", 16);
        fails("house 5 floor 5 blind west east", 27);
        fails("house 5 floor 5 blind west blind east", 27);
        fails("blind west", 0);
    }

    private static void housesAreEightAtMost() {
        due.begin("FAULT: the WORD of a 9th HOUSE: its own");
        String seven = "house0floor1;".repeat(7);
        reads(seven + "house0floor1", 8);
        fails(seven + "house0floor1;house", 104);
        Edges eight = new Edges(due, Made::eightHouses);
        eight.answers("a 9th", -1, x -> Due.read(x, "house 0 floor 1"));
        eight.answers("a 9th, behind others", -1 - 9, x -> Due.read(x, "rate 57; house 0 floor 1"));
        eight.answers("a 9th, wrong behind its WORD", -1, x -> Due.read(x, "house 99"));
        eight.answers("another fault ahead of it", -1 - 5, x -> Due.read(x, "rate 100;house 0 floor 1"));
        eight.answers("a fault tells nothing", 8, x -> {
            Due.read(x, "rate 57;house 0 floor 1");
            return x.count(1) + x.law(1, 10) - 10;
        });
        SeenLand x = new SeenLand();
        for (int h = 0; h < 7; h++) {
            x.house(0, 1);
        }
        due.is("two more where one can be", Due.read(x, "house 5 floor 5;house 6 floor 6"), -1 - 16);
        due.is("none of them is there", x.count(1), 7);
        due.is("one more", Due.read(x, "house 5 floor 5"), 1);
        due.is("eight", x.count(1), 8);
    }

    private static void hazeTakesANumber() {
        due.begin("ITEM: haze and a NUMBER (1 to 23)");
        numberEnds("haze ", 1, 23, "");
        due.is("1", Made.of("haze 1").law(0, 5), 1);
        due.is("23", Made.of("haze 7;haze 23").law(0, 5), 23);
        fails("haze haze", 5);
        fails("haze", 4);
    }

    private static void rateTakesANumber() {
        due.begin("ITEM: rate and a NUMBER (0 to 99)");
        numberEnds("rate ", 0, 99, "");
        due.is("0", Made.of("rate 0").law(1, 5), 0);
        due.is("99", Made.of("rate 99").law(1, 5), 99);
        fails("rate rate", 5);
        fails("rate", 4);
    }

    private static void wordsThatCantStandThere() {
        due.begin("FAULT: another WORD");
        for (String word : new String[] {"to", "high", "age", "floor", "blind", "west", "east", "hill", "lan", "lands"}) {
            fails(word + " 5", 0);
            fails("rate 5;" + word + " 5", 7);
            fails("rate " + word, 5);
        }
        for (String right : new String[] {"land 5", "water 5", "field 5", "sea 5", "roof 5", "wood 5", "elm 5", "haze 5",
            "rate 5", "house 5 floor 5"}) {
            int end = right.indexOf(' ');
            reads(right, 1);
            fails("x" + right.substring(1), 0);
            fails(right.substring(1), 0);
            fails(right.substring(0, end - 1) + "x" + right.substring(end), 0);
            fails(right.substring(0, end - 1) + right.substring(end), 0);
        }
        for (String word : new String[] {"land", "house", "haze", "rate", "elm"}) {
            fails("rate 5 " + word + " 5", 7);
            fails("land 5 " + word, 7);
            fails("house 5 " + word, 8);
            fails("house 5 floor " + word, 14);
        }
    }

    private static void textsThatEndTooEarly() {
        due.begin("FAULT: how many bytes there are (blanks, too) if it ends too early");
        String[] begins = {"elm", "elm 5 to", "elm 5 high", "elm 5 age", "elm 5 to 6 high 7 age", "elm 5;", "house", "house 5",
            "house 5 floor", "house 5 floor 5 blind", "haze", "rate", "rate 5;", ""};
        for (String begin : begins) {
            fails(begin, begin.length());
            fails(begin + "  ", begin.length() + 2);
        }
    }

    private static void faultsChangeNothing() {
        due.begin("41 text: with a FAULT nothing changes but that THE TAPE is empty; no finding");
        Edges fed = new Edges(due, TextsEdgesTest::busyWithoutTape);
        String all = "elm 0 to 23 high 99 age 99;house 0 floor 40 blind west;haze 1;rate 99";
        fed.answers("'" + all + "'", 4, x -> Due.read(x, all));
        fed.tells("a fault at the end", -1 - all.length() - 1, x -> Due.read(x, all + ";"));
        fed.tells("a fault within an item", -1 - all.length() - 10, x -> Due.read(x, all + ";elm 3 to 2"));
        fed.tells("an empty text", -1, x -> x.text());
    }

    private static SeenLand busyWithoutTape() {
        SeenLand x = Made.busy();
        x.wipe();
        return x;
    }

    private static void itemsAreToldOneBehindTheOther() {
        due.begin("41 text: all that it tells is so, item by item: how many ITEMS");
        SeenLand x = Made.of("elm 0 to 23 high 9 age 8;sea 5 to 7;land 6 high 3;rate 1;rate 2;haze 3;haze 4");
        int[][] want = {{4, 6, 9, 8}, {5, 3, 9, 0}, {6, 0, 3, 0}, {7, 3, 9, 0}, {8, 6, 9, 8}};
        for (int[] c : want) {
            due.is("kind of " + c[0], x.cellOf(c[0], 0), c[1]);
            due.is("height of " + c[0], x.cellOf(c[0], 1), c[2]);
            due.is("age of " + c[0], x.cellOf(c[0], 2), c[3]);
        }
        due.is("the later rate", x.law(1, 10), 2);
        due.is("the later haze", x.law(0, 23), 4);
        SeenLand house = Made.of("house 3 floor 2;roof 3 high 4");
        due.is("what comes later is under the house, too", house.houseOf(0, 2), 11);
    }
}
