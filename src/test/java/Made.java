/** Lands that the tests of edges begin with. */
final class Made {
    private Made() {
    }

    /**
     * A land where every part is in use, and an image that is unlike it: three houses, sheets of 8, 8 and
     * 16 bits (sheet 3 is missing), spots 0, 3 and 9, a text on the tape, year 4.
     */
    static SeenLand busy() {
        SeenLand x = new SeenLand();
        Due.read(x, "water 2 high 7 age 9;sea 4 high 9 age 3;wood 5 high 8 age 2;elm 6 to 7 high 3 age 40;roof 8;field 9 high 1");
        Due.read(x, "house 10 floor 3;house 20 floor 1 blind west;house 10 floor 9 blind east;haze 20;rate 13");
        x.years(4);
        x.seed(77);
        x.hold(0, 5);
        x.hold(9, 23);
        writeSheet(x, 0, 8, 31, 32, 33);
        writeSheet(x, 1, 8, 41, 42, 43, 44, 45);
        writeSheet(x, 2, 16, 51, 52, 53, 54);
        x.image();
        x.cell(0, 0, 6);
        x.set(1, 5);
        x.floor(0, 4);
        x.hold(3, 4);
        x.seed(78);
        Due.feed(x, "rate 57;haze 9");
        return x;
    }

    static SeenLand busyAt(int year) {
        SeenLand x = busy();
        Due.goTo(x, year);
        return x;
    }

    /** The same with as many houses as there can be. */
    static SeenLand busyAndFull() {
        SeenLand x = busy();
        for (int h = 3; h < 8; h++) {
            x.house(h, h);
        }
        return x;
    }

    /** As many houses as there can be, on cells 0, 3, .. 21, all on flat land. */
    static SeenLand eightHouses() {
        SeenLand x = new SeenLand();
        for (int h = 0; h < 8; h++) {
            x.house(3 * h, 1 + h);
        }
        return x;
    }

    static SeenLand of(String text) {
        SeenLand x = new SeenLand();
        Due.read(x, text);
        return x;
    }

    /** A land whose tape has so many bytes: a text with blanks behind it. */
    static SeenLand withBytes(int bytes) {
        SeenLand x = new SeenLand();
        Due.feed(x, Due.padded("rate 57", bytes));
        return x;
    }

    static void writeSheet(SeenLand x, int s, int bits, int... numbers) {
        x.sheet(s, bits, numbers.length);
        for (int i = 0; i < numbers.length; i++) {
            x.write(s, i, numbers[i]);
        }
    }
}
