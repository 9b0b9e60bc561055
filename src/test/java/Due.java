/** Compares answers with those that are due, and tells the wrong ones. */
final class Due {
    static final int BEYOND = -1000001;
    static final int FULL = -1000002;
    static final int KIND = -1000003;
    static final int NONE = -1000004;
    static final int STATE = -1000005;
    static final int MISSING = -1000006;
    static final int SIZE = -1000007;

    private int wrong = 0;
    private int asked = 0;
    private String part = "";

    void begin(String name) {
        part = name;
    }

    void is(String call, int got, int want) {
        asked++;
        if (got != want) {
            fail(call + " answered " + got + ", due is " + want);
        }
    }

    void holds(String what, boolean isSo) {
        asked++;
        if (!isSo) {
            fail(what);
        }
    }

    private void fail(String what) {
        wrong++;
        if (wrong <= 50) {
            System.out.println(part + ": " + what);
        }
    }

    void end() {
        System.out.println(asked + " answers, " + wrong + " wrong");
        if (wrong != 0) {
            System.exit(1);
        }
    }

    static SeenLand flatWithHouse(int cell, int floor) {
        SeenLand x = new SeenLand();
        x.house(cell, floor);
        return x;
    }

    /** Four bytes a call: an object has 512 calls. */
    static void feed(SeenLand x, String text) {
        for (int i = 0; i < text.length(); i += 4) {
            int n = Math.min(4, text.length() - i);
            int bytes = 0;
            for (int k = 0; k < n; k++) {
                bytes = bytes << 8 | text.charAt(i + k);
            }
            x.feed(bytes, n);
        }
    }

    /** A text with blanks behind it, of so many bytes. */
    static String padded(String text, int bytes) {
        return text + " ".repeat(bytes - text.length());
    }

    static int read(SeenLand x, String text) {
        feed(x, text);
        return x.text();
    }

    /** Lets so many years go, in steps that years() takes. */
    static void goTo(SeenLand x, int year) {
        while (x.count(0) < year) {
            x.years(Math.min(60, year - x.count(0)));
        }
    }
}
