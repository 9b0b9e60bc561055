import java.util.LinkedHashMap;
import java.util.Map;

/** Runs on one object up to its 512th call, which is as far as the document promises anything. */
public final class LongRunsTest {
    private static final Due due = new Due();
    private static final int MOST_CALLS = 512;

    /** One call each, so that a run can be counted: every part of an object is in use behind them. */
    private static final Edges.Act[] MAKING = {
        x -> x.set(2, 1), x -> x.cell(2, 0, 7), x -> x.set(4, 3), x -> x.cell(4, 0, 9), x -> x.set(5, 5),
        x -> x.cell(5, 1, 2), x -> x.set(6, 6), x -> x.cell(6, 0, 3), x -> x.set(8, 4), x -> x.set(9, 2),
        x -> x.set(11, 5), x -> x.set(13, 6), x -> x.house(10, 3), x -> x.house(20, 1), x -> x.house(10, 9),
        x -> x.windows(1, 2), x -> x.law(0, 20), x -> x.law(1, 13), x -> x.hold(0, 5), x -> x.hold(9, 23),
        x -> x.sheet(0, 8, 3), x -> x.write(0, 0, 9), x -> x.write(0, 1, 3), x -> x.sheet(1, 8, 5),
        x -> x.write(1, 4, 45), x -> x.sheet(2, 16, 2), x -> x.seed(77), x -> x.undo(), x -> x.image(),
        x -> x.years(4), x -> x.feed(0x72617465, 4), x -> x.feed(0x203537, 3)};

    /** Counts the calls on an object, so that none of a run goes farther than it may. */
    private static final class Counted {
        private final SeenLand x = new SeenLand();
        private int calls = 0;

        private int ask(Edges.Act call) {
            calls++;
            due.holds("call " + calls + " is promised", calls <= MOST_CALLS);
            return call.on(x);
        }

        private void expect(String name, int want, Edges.Act call) {
            int got = ask(call);
            due.is("call " + calls + ": " + name, got, want);
        }

        private boolean isBefore(int call) {
            return calls < call - 1;
        }
    }

    public static void main(String[] args) {
        everyCallIsAsGoodAtTheEnd();
        findingsAddUp();
        yearsGoOneByOne();
        yearsEndAt999();
        theTapeIsFilledAndWiped();
        textsFollowTexts();
        imagesFollowImages();
        quakesFollowQuakes();
        aSheetIsShifted();
        theDearestCallIsRepeated();
        due.end();
    }

    private static Map<String, Edges.Act> face() {
        Map<String, Edges.Act> face = new LinkedHashMap<>();
        face.put("cell", x -> x.cell(2, 0, 9));
        face.put("set", x -> x.set(4, 0));
        face.put("cellOf", x -> x.cellOf(6, 3));
        face.put("house", x -> x.house(0, 40));
        face.put("houseOf", x -> x.houseOf(2, 2));
        face.put("floor", x -> x.floor(2, 1));
        face.put("windows", x -> x.windows(1, 3));
        face.put("law", x -> x.law(0, 5));
        face.put("dig", x -> x.dig(2, 9, 4));
        face.put("drain", x -> x.drain(20));
        face.put("sight", x -> x.sight(0));
        face.put("sees", x -> x.sees(0, 9));
        face.put("seenBy", x -> x.seenBy(10));
        face.put("neighbours", x -> x.neighbours(0));
        face.put("hidden", x -> x.hidden(0, 15));
        face.put("tax", x -> x.tax(2));
        face.put("all", x -> x.all());
        face.put("cheapest", x -> x.cheapest(2));
        face.put("widest", x -> x.widest(0));
        face.put("wall", x -> x.wall(0, 9));
        face.put("rateFor", x -> x.rateFor(30));
        face.put("shade", x -> x.shade(2, 6, 30));
        face.put("gains", x -> x.gains(9, 6, 30));
        face.put("plant", x -> x.plant(3));
        face.put("two", x -> x.two(4));
        face.put("restless", x -> x.restless());
        face.put("walk", x -> x.walk());
        face.put("blind", x -> x.blind());
        face.put("heights", x -> x.heights(9, 0, 9));
        face.put("height", x -> x.height(9, 0, 9, 1));
        face.put("which", x -> x.which(3, 31));
        face.put("years", x -> x.years(60));
        face.put("ahead", x -> x.ahead(20, 3));
        face.put("lost", x -> x.lost(2, 13));
        face.put("when", x -> x.when(2));
        face.put("quake", x -> x.quake(10));
        face.put("seed", x -> x.seed(5));
        face.put("feed", x -> x.feed(59, 1));
        face.put("wipe", x -> x.wipe());
        face.put("text", x -> x.text());
        face.put("hold", x -> x.hold(1, 1));
        face.put("as", x -> x.as(0, 5));
        face.put("sheet", x -> x.sheet(3, 32, 40));
        face.put("write", x -> x.write(2, 1, 9));
        face.put("copy", x -> x.copy(0, 0, 1, 2, 3));
        face.put("load", x -> x.load(1, 3));
        face.put("judge", x -> x.judge(0, 5));
        face.put("image", x -> x.image());
        face.put("undo", x -> x.undo());
        face.put("tear", x -> x.tear());
        face.put("count", x -> x.count(2));
        face.put("status", x -> x.status(-1));
        return face;
    }

    private static Counted made() {
        Counted run = new Counted();
        for (Edges.Act call : MAKING) {
            run.ask(call);
        }
        return run;
    }

    private static void everyCallIsAsGoodAtTheEnd() {
        due.begin("the 512th call answers as an early one");
        Edges.Act[] idle = {x -> x.all(), x -> x.two(6), x -> x.gains(11, 6, 60), x -> x.widest(0), x -> x.walk(),
            x -> x.when(2), x -> x.ahead(9, 0), x -> x.shade(0, 5, 9), x -> x.heights(11, 0, 5)};
        face().forEach((name, call) -> {
            Counted old = made();
            while (old.isBefore(MOST_CALLS)) {
                old.ask(idle[old.calls % idle.length]);
            }
            int early = made().ask(call);
            due.holds(name + " tells no finding", early > Due.BEYOND);
            old.expect(name, early, call);
            due.is("calls", old.calls, MOST_CALLS);
        });
    }

    private static void findingsAddUp() {
        due.begin("findings up to the 512th call");
        Edges.Act[] refused = {x -> x.tax(8), x -> x.house(0, 1), x -> x.as(0, 1), x -> x.undo(), x -> x.hidden(0, 0),
            x -> x.load(0, 0), x -> x.sheet(0, 8, -1)};
        int[] want = {502, 72, 72, 72, 72, 72, 71, 71};
        for (int which = -1; which <= 6; which++) {
            int w = which;
            Counted run = new Counted();
            for (int h = 0; h < 8; h++) {
                run.expect("house", h, x -> x.house(0, 1));
            }
            run.expect("hold", 1, x -> x.hold(0, 0));
            for (int i = 0; run.isBefore(MOST_CALLS); i++) {
                run.expect("refused", Due.BEYOND - i % 7, refused[i % 7]);
            }
            run.expect("status(" + which + ")", want[which + 1], x -> x.status(w));
        }
    }

    private static void yearsGoOneByOne() {
        due.begin("years up to the 512th call");
        Map<String, Edges.Act> last = new LinkedHashMap<>();
        last.put("AGE of an elm", x -> x.cellOf(0, 2));
        last.put("TOP of an elm", x -> x.cellOf(0, 3));
        last.put("TOP of a wood", x -> x.cellOf(1, 3));
        last.put("YEAR", x -> x.count(0));
        int[] want = {99, 79, 30, 509};
        int i = 0;
        for (Map.Entry<String, Edges.Act> entry : last.entrySet()) {
            Counted run = new Counted();
            run.expect("set(0, 6)", 0, x -> x.set(0, 6));
            run.expect("set(1, 5)", 0, x -> x.set(1, 5));
            for (int year = 1; run.isBefore(MOST_CALLS); year++) {
                run.expect("years(1)", year, x -> x.years(1));
            }
            run.expect(entry.getKey(), want[i++], entry.getValue());
        }
    }

    private static void yearsEndAt999() {
        due.begin("years to 999, and no farther");
        Counted run = new Counted();
        for (int year = 2; year <= 998; year += 2) {
            run.expect("years(2)", year, x -> x.years(2));
        }
        run.expect("years(2) at 998", Due.STATE, x -> x.years(2));
        run.expect("years(1) at 998", 999, x -> x.years(1));
        while (run.isBefore(MOST_CALLS)) {
            run.expect("years(1) at 999", Due.STATE, x -> x.years(1));
        }
        run.expect("status(4)", 11, x -> x.status(4));
    }

    private static void theTapeIsFilledAndWiped() {
        due.begin("the tape up to the 512th call");
        Counted run = new Counted();
        for (int round = 0; round < 16; round++) {
            for (int bytes = 4; bytes <= 120; bytes += 4) {
                run.expect("feed", bytes, x -> x.feed(-1, 4));
            }
            run.expect("one more", Due.FULL, x -> x.feed(-1, 1));
            run.expect("wipe()", 120, x -> x.wipe());
        }
        due.is("calls", run.calls, MOST_CALLS);
    }

    private static void textsFollowTexts() {
        due.begin("texts up to the 512th call");
        Counted run = new Counted();
        for (int i = 0; i < 170; i++) {
            int digits = ('0' + i / 10 % 10) << 8 | '0' + i % 10;
            run.expect("feed \"rate\"", 4, x -> x.feed(0x72617465, 4));
            run.expect("feed a number", 6, x -> x.feed(digits, 2));
            run.expect("text()", 1, x -> x.text());
        }
        run.expect("RATE of the last", 69, x -> x.law(1, 5));
        run.expect("THE TAPE", 0, x -> x.count(4));
        due.is("calls", run.calls, MOST_CALLS);
    }

    private static void imagesFollowImages() {
        due.begin("images up to the 512th call");
        Counted run = new Counted();
        int[] heights = new int[24];
        for (int i = 0; i < 128; i++) {
            int cell = 5 * i % 24;
            int high = 1 + 7 * i % 99;
            run.expect("a height", heights[cell], x -> x.cell(cell, 0, high));
            run.expect("image()", 1, x -> x.image());
            run.expect("another height", high, x -> x.cell(cell, 0, 0));
            run.expect("undo()", 0, x -> x.undo());
            heights[cell] = high;
        }
        due.is("calls", run.calls, MOST_CALLS);
    }

    private static void quakesFollowQuakes() {
        due.begin("quakes up to the 512th call");
        Counted run = new Counted();
        int[] heights = new int[24];
        int z = 1;
        while (run.isBefore(MOST_CALLS)) {
            int sum = 0;
            for (int i = 0; i < 10; i++) {
                z = z * 1103515245 + 12345;
                int struck = (z >>> 8) % 24;
                z = z * 1103515245 + 12345;
                heights[struck] = (z >>> 8) % 100;
            }
            for (int high : heights) {
                sum += high;
            }
            run.expect("quake(10)", sum, x -> x.quake(10));
        }
        run.expect("z behind 10220 draws", z, x -> x.count(5));
    }

    private static void aSheetIsShifted() {
        due.begin("a sheet up to the 512th call");
        Counted run = new Counted();
        run.expect("sheet", 40, x -> x.sheet(0, 8, 40));
        for (int i = 0; i < 40; i++) {
            int at = i;
            run.expect("write", 1, x -> x.write(0, at, 256 + 50 + at));
        }
        while (run.isBefore(MOST_CALLS - 6)) {
            run.expect("to the end and back", 39, x -> x.copy(0, 0, 0, 1, 39));
            run.expect("to the end and back", 39, x -> x.copy(0, 1, 0, 0, 39));
        }
        run.expect("once more", 39, x -> x.copy(0, 0, 0, 1, 39));
        run.expect("load", 24, x -> x.load(0, 0));
        run.expect("the first", 50, x -> x.cellOf(0, 1));
        run.expect("the second", 50, x -> x.cellOf(1, 1));
        run.expect("the third", 51, x -> x.cellOf(2, 1));
        run.expect("the last", 72, x -> x.cellOf(23, 1));
        run.expect("sheet 0 is there still", 1, x -> x.write(0, 39, 0));
        due.is("calls", run.calls, MOST_CALLS);
    }

    /** two() tries the most lands; on flat land one roof on each side of a house hides all behind it. */
    private static void theDearestCallIsRepeated() {
        due.begin("two() up to the 512th call");
        Counted run = new Counted();
        for (int h = 0; h < 8; h++) {
            int number = h;
            run.expect("house", number, x -> x.house(12, 1));
        }
        while (run.isBefore(MOST_CALLS)) {
            run.expect("two(4)", 1113, x -> x.two(4));
        }
        run.expect("all()", 8 * 23, x -> x.all());
    }
}
