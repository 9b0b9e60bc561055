import java.lang.reflect.InvocationTargetException;
import java.lang.reflect.Method;
import java.util.ArrayList;
import java.util.List;
import java.util.Random;

/** Long runs of calls by chance (from a seed that is told), each answer compared with PlainLand's. */
public final class AgainstPlainTest {
    private static final Due due = new Due();

    /** A call's name, how often it comes, and what its arguments are. */
    private static final String[] CALLS = {
        "cell 6 cell one measure", "set 6 cell kind", "cellOf 4 cell five", "house 3 cell floor",
        "houseOf 3 house four", "floor 3 house floor", "windows 3 house open", "law 1 one law",
        "dig 1 cell cell measure", "drain 1 twenty", "sight 6 house", "sees 3 house cell", "seenBy 3 cell",
        "neighbours 3 house", "hidden 8 house cell", "tax 4 house", "all 3", "cheapest 1 house", "widest 2 house",
        "wall 3 house cell", "rateFor 2 tax", "shade 1 house kind years", "gains 2 cell kind years", "plant 1 kind",
        "two 1 kind", "restless 1", "walk 2", "blind 2", "heights 2 cell house tax", "height 2 cell house tax one",
        "which 3 cell tax", "years 1 years", "ahead 3 years ahead", "lost 2 house cell", "when 1 house",
        "quake 1 ten", "seed 1 any", "feed 1 any bytes", "wipe 1", "text 1", "hold 3 spot held", "as 5 spot kind",
        "sheet 2 sheet bits size", "write 8 sheet size number", "copy 4 sheet size sheet size size", "load 1 sheet cell",
        "judge 3 sheet years", "image 1", "undo 1", "tear 1", "count 4 seven", "status 3 which"};
    private static final String[] WORDS = {"land", "water", "field", "sea", "roof", "wood", "elm", "house", "haze",
        "rate", "to", "high", "age", "floor", "blind", "west", "east", ";", "lands", "T", "\t", "\u00e9"};
    private static final int[] STRANGE = {-1, -2, 24, 41, 61, 100, 121, 100000, Integer.MIN_VALUE, Integer.MAX_VALUE, 7, 8};

    /** What is promised of an object ends there. */
    private static final int MOST_CALLS = 512;

    private final Random chance;
    private final SeenLand x = new SeenLand();
    private final PlainLand plain = new PlainLand();
    private final List<String> bag = new ArrayList<>();
    private int calls = 0;

    private AgainstPlainTest(long seed) {
        chance = new Random(seed);
        for (String call : CALLS) {
            String[] parts = call.split(" ");
            for (int i = 0; i < Integer.parseInt(parts[1]); i++) {
                bag.add(call);
            }
        }
    }

    public static void main(String[] args) throws ReflectiveOperationException {
        int runs = args.length > 0 ? Integer.parseInt(args[0]) : 60;
        for (int run = 0; run < runs; run++) {
            due.begin("run " + run);
            new AgainstPlainTest(run).go();
        }
        due.end();
    }

    private void go() throws ReflectiveOperationException {
        if (chance.nextInt(4) > 0) {
            tellText(5, 0);
            tellText(4, 0);
        }
        if (chance.nextInt(4) == 0) {
            for (int i = 0; i < 17; i++) {
                ask("years", 54 + upTo(6));
            }
        }
        if (chance.nextBoolean()) {
            for (int s = 0; s < 4; s++) {
                ask("sheet", s, s == 3 ? 16 : 8, upTo(40));
                ask("hold", upTo(9), upTo(23));
            }
        }
        while (calls < MOST_CALLS) {
            if (chance.nextInt(40) == 0) {
                tellText(1 + chance.nextInt(5), chance.nextInt(3));
            } else if (chance.nextInt(60) == 0) {
                tellTaxes();
            } else {
                String[] parts = bag.get(chance.nextInt(bag.size())).split(" ");
                int[] arguments = new int[parts.length - 2];
                for (int i = 0; i < arguments.length; i++) {
                    arguments[i] = argument(parts[i + 2]);
                }
                ask(parts[0], arguments);
            }
        }
    }

    private void ask(String name, int... arguments) throws ReflectiveOperationException {
        if (calls >= MOST_CALLS) {
            return;
        }
        Class<?>[] types = new Class<?>[arguments.length];
        Object[] boxes = new Object[arguments.length];
        StringBuilder call = new StringBuilder("call ").append(++calls).append(": ").append(name).append('(');
        for (int i = 0; i < arguments.length; i++) {
            types[i] = int.class;
            boxes[i] = arguments[i];
            call.append(i == 0 ? "" : ", ").append(arguments[i]);
        }
        int got = (int) SeenLand.class.getMethod(name, types).invoke(x, boxes);
        due.is(call.append(')').toString(), got, plainly(PlainLand.class.getDeclaredMethod(name, types), boxes));
    }

    private int plainly(Method method, Object[] boxes) throws IllegalAccessException {
        try {
            return (int) method.invoke(plain, boxes);
        } catch (InvocationTargetException e) {
            if (e.getCause() instanceof PlainLand.Found) {
                int finding = ((PlainLand.Found) e.getCause()).finding;
                plain.told[Due.BEYOND - finding]++;
                return finding;
            }
            throw new IllegalStateException(e.getCause());
        }
    }

    private int argument(String sort) {
        return chance.nextInt(25) == 0 ? STRANGE[chance.nextInt(STRANGE.length)] : usual(sort);
    }

    private int upTo(int most) {
        return chance.nextInt(most + 1);
    }

    private int usual(String sort) {
        int houses = plain.now.homes.size();
        switch (sort) {
            case "cell": return upTo(23);
            case "one": return upTo(1);
            case "measure": return chance.nextBoolean() ? upTo(12) : upTo(99);
            case "kind": return upTo(6);
            case "five": return upTo(4);
            case "four": return upTo(3);
            case "seven": return upTo(6);
            case "house": return upTo(Math.max(0, houses - 1));
            case "floor": return 1 + upTo(chance.nextBoolean() ? 8 : 39);
            case "open": return chance.nextBoolean() ? 3 : upTo(3);
            case "law": return chance.nextBoolean() ? upTo(23) : upTo(99);
            case "twenty": return upTo(20);
            case "tax": return someTax();
            case "years": return chance.nextBoolean() ? upTo(5) : upTo(60);
            case "ahead": return upTo(houses);
            case "ten": return 1 + upTo(9);
            case "any": return chance.nextInt();
            case "bytes": return 1 + upTo(3);
            case "spot": return upTo(9);
            case "held": return upTo(24) - 1;
            case "sheet": return upTo(3);
            case "bits": return new int[] {0, 8, 8, 8, 16, 16, 32, 7}[upTo(7)];
            case "size": return chance.nextInt(3) > 0 ? upTo(6) : upTo(40);
            case "number": return chance.nextBoolean() ? upTo(120) : chance.nextInt() >> upTo(31);
            case "which": return upTo(7) - 1;
            default: throw new IllegalArgumentException(sort);
        }
    }

    private int someTax() {
        int houses = plain.now.homes.size();
        if (houses == 0 || chance.nextInt(3) == 0) {
            return upTo(60);
        }
        return chance.nextInt(3) == 0 ? plain.now.allTax() : plain.now.tax(upTo(houses - 1));
    }

    /** A text of some items, then spoilt at some places. */
    private void tellText(int items, int spoilt) throws ReflectiveOperationException {
        List<String> tokens = new ArrayList<>();
        for (int i = 0; i < items; i++) {
            if (i > 0) {
                tokens.add(";");
            }
            addItem(tokens);
        }
        for (int i = 0; i < spoilt; i++) {
            int at = upTo(tokens.size() - 1);
            String other = chance.nextBoolean() ? WORDS[upTo(WORDS.length - 1)] : "" + upTo(130);
            switch (upTo(2)) {
                case 0: tokens.set(at, other); break;
                case 1: tokens.add(at, other); break;
                default: tokens.subList(at, tokens.size()).clear(); tokens.add(""); break;
            }
        }
        StringBuilder text = new StringBuilder();
        for (String token : tokens) {
            text.append(token).append(chance.nextInt(4) == 0 && spoilt > 0 ? "" : " ");
        }
        feedAndRead(text.toString());
    }

    private void addItem(List<String> tokens) {
        int sort = upTo(13);
        if (sort < 9) {
            int from = upTo(23);
            tokens.add(WORDS[upTo(6)]);
            tokens.add("" + from);
            addPerhaps(tokens, "to", from + upTo(23 - from));
            addPerhaps(tokens, "high", upTo(chance.nextBoolean() ? 9 : 99));
            addPerhaps(tokens, "age", upTo(99));
        } else if (sort < 12) {
            tokens.addAll(List.of("house", "" + upTo(23), "floor", "" + (1 + upTo(39))));
            if (chance.nextInt(3) == 0) {
                tokens.addAll(List.of("blind", chance.nextBoolean() ? "west" : "east"));
            }
        } else {
            tokens.add(sort == 12 ? "haze" : "rate");
            tokens.add("" + upTo(sort == 12 ? 23 : 99));
        }
    }

    private void addPerhaps(List<String> tokens, String word, int v) {
        if (chance.nextBoolean()) {
            tokens.add(word);
            tokens.add("" + v);
        }
    }

    private void feedAndRead(String text) throws ReflectiveOperationException {
        for (int i = 0; i < text.length();) {
            int n = Math.min(1 + upTo(3), text.length() - i);
            int bytes = chance.nextInt();
            for (int k = 0; k < n; k++) {
                bytes = bytes << 8 | text.charAt(i + k);
            }
            ask("feed", bytes, n);
            i += n;
        }
        ask("text");
    }

    /** A sheet of taxes that are right, so that the reader has something to find. */
    private void tellTaxes() throws ReflectiveOperationException {
        int houses = plain.now.homes.size();
        int n = plain.now.year > 939 ? 0 : upTo(60);
        int s = upTo(3);
        PlainLand.World then = plain.now.ahead(n);
        ask("sheet", s, chance.nextInt(4) == 0 ? 8 : 32, houses + (chance.nextInt(4) == 0 ? 1 : 0));
        for (int h = 0; h < houses; h++) {
            ask("write", s, h, then.tax(h) + (chance.nextInt(8) == 0 ? 1 : 0));
        }
        ask("judge", s, n);
    }
}
