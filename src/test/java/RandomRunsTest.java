import java.lang.reflect.Method;
import java.util.ArrayList;
import java.util.List;
import java.util.Random;

/** Runs of calls, drawn with told seeds, on ChalkWars and on SlowCity: each answer is the same. */
public final class RandomRunsTest {
    private static final String[] QUICK = {
        "hand", "handOf", "handOf", "handOf", "change", "change", "remake", "set", "set", "edge", "anew", "state", "state", "state",
        "text", "text", "rules", "feed", "dusk", "dusk", "dusk", "on", "when", "chalkFor", "facingFor", "way", "bridges",
        "report", "report", "forget", "span", "liar", "liar", "seed", "lot", "lot", "times", "row", "alterRow", "judge", "judge",
        "sheet", "write", "write", "item", "goAll", "wouldBe", "wouldBe", "shelf", "shelf", "taken", "act", "act", "act", "trace",
        "trace", "many", "many", "keep", "again"};
    private static final String[] DEAR = {"cut", "best", "ith", "ways", "siege", "bars", "game", "play", "prove"};

    private final Random random;
    private final ChalkWars quick = new ChalkWars();
    private final SlowCity slow = new SlowCity();
    private final StringBuilder told = new StringBuilder();
    private int different = 0;

    private RandomRunsTest(long seed) {
        random = new Random(seed);
    }

    public static void main(String[] args) throws Exception {
        int runs = args.length > 0 ? Integer.parseInt(args[0]) : 120;
        int from = args.length > 1 ? Integer.parseInt(args[1]) : 0;
        int passed = 0, failed = 0;
        for (int run = from; run < from + runs; run++) {
            RandomRunsTest test = new RandomRunsTest(run);
            test.run(run % 3 == 0);
            if (test.different == 0) passed++;
            else {
                failed++;
                System.out.println("run " + run + ":\n" + test.told);
            }
        }
        System.out.println(passed + " passed, " + failed + " failed");
        if (failed > 0) System.exit(1);
    }

    private void run(boolean dear) throws Exception {
        int most = dear ? 4 : 1 + random.nextInt(6);
        for (int i = 0; i < 1 + random.nextInt(most); i++) {
            call("hand", 1 + random.nextInt(5), random.nextInt(12), random.nextInt(4), random.nextInt(10));
        }
        if (random.nextInt(3) > 0) call("set", 2, random.nextInt(131072) & random.nextInt(131072));
        for (int i = 0; i < 160 && different == 0; i++) {
            boolean asksDear = random.nextInt(dear ? 6 : 60) == 0;
            String name = asksDear ? DEAR[random.nextInt(DEAR.length)] : QUICK[random.nextInt(QUICK.length)];
            if (name.equals("text")) text();
            else call(name, argumentsFor(name));
        }
    }

    private void call(String name, long... args) throws Exception {
        int want = slow.call(name, args);
        Method method = null;
        for (Method m : ChalkWars.class.getDeclaredMethods()) {
            if (m.getName().equals(name) && java.lang.reflect.Modifier.isPublic(m.getModifiers())) method = m;
        }
        int got = (Integer) method.invoke(quick, SlowCity.boxed(method, args));
        List<Object> shown = new ArrayList<>();
        for (long a : args) shown.add(a);
        told.append("  ").append(name).append(shown).append(" = ").append(got).append('\n');
        if (got != want) {
            different++;
            told.append("  due is ").append(want).append('\n');
        }
    }

    /** Mostly as told, and now and then just beside it, or as far off as an int goes. */
    private int from(int least, int most) {
        switch (random.nextInt(70)) {
            case 0: case 1: return least - 1;
            case 2: case 3: return most + 1;
            case 4: return random.nextBoolean() ? Integer.MIN_VALUE : Integer.MAX_VALUE;
            default: return least + random.nextInt(most - least + 1);
        }
    }

    private int upTo(int most) {
        return from(0, most);
    }

    private int any() {
        return random.nextInt(3) == 0 ? random.nextInt() : random.nextInt(41) - 20;
    }

    private int handNumber() {
        return upTo(Math.max(0, slow.world.hands.size() - 1));
    }

    private long[] argumentsFor(String name) {
        switch (name) {
            case "hand": return new long[] {from(1, 5), upTo(11), upTo(3), upTo(9)};
            case "handOf": return new long[] {handNumber(), upTo(8)};
            case "change": {
                int what = from(1, 3);
                return new long[] {handNumber(), what, upTo(what == 1 ? 11 : what == 2 ? 3 : 9)};
            }
            case "remake": return new long[] {handNumber(), from(1, 5)};
            case "set": return setting();
            case "edge": return new long[] {upTo(11), upTo(3)};
            case "state": return new long[] {upTo(8)};
            case "feed": return new long[] {random.nextLong(), from(1, 8)};
            case "on": return new long[] {upTo(16)};
            case "when": return new long[] {upTo(11)};
            case "chalkFor": case "facingFor": return new long[] {handNumber()};
            case "cut": return new long[] {upTo(11), upTo(1)};
            case "way": return new long[] {upTo(11), upTo(11)};
            case "best": case "ways": case "prove": return new long[] {upTo(4)};
            case "ith": return new long[] {upTo(4), upTo(3)};
            case "siege": case "bars": return new long[] {upTo(4), cellSet()};
            case "game": case "play": return new long[] {from(1, 4)};
            case "report": {
                int least = upTo(11);
                return new long[] {upTo(15), least, random.nextInt(4) == 0 ? upTo(11) : Math.min(11, least + random.nextInt(7))};
            }
            case "span": return new long[] {upTo(3)};
            case "seed": return new long[] {any()};
            case "times": return new long[] {from(1, 40), random.nextInt(3) == 0 ? upTo(999) : upTo(60)};
            case "row": return new long[] {upTo(3), upTo(2)};
            case "alterRow": return new long[] {upTo(3), upTo(2), random.nextInt(4) == 0 ? any() : upTo(6)};
            case "sheet": return new long[] {upTo(3), random.nextBoolean() ? 0 : from(-1, 4), upTo(40)};
            case "write": return new long[] {upTo(3), random.nextBoolean() ? upTo(5) : upTo(40), random.nextBoolean() ? upTo(6) : any() * 77};
            case "item": return new long[] {upTo(3), random.nextBoolean() ? 0 : upTo(4), upTo(12)};
            case "goAll": case "wouldBe": return new long[] {upTo(3), upTo(8), random.nextBoolean() ? upTo(4) : upTo(20)};
            case "shelf": return new long[] {upTo(3), random.nextBoolean() ? 0 : upTo(2), random.nextBoolean() ? handNumber() : upTo(3)};
            case "taken": return new long[] {upTo(3), random.nextInt(3) == 0 ? from(10, 14) : upTo(5)};
            case "act": return new long[] {upTo(3), upTo(3), any()};
            case "trace": return new long[] {upTo(11)};
            case "many": return new long[] {upTo(6)};
            default: return new long[0];
        }
    }

    private int cellSet() {
        return random.nextInt(4) == 0 ? upTo(4095) : 1 << random.nextInt(12) | 1 << random.nextInt(12);
    }

    private long[] setting() {
        int what = upTo(4);
        switch (what) {
            case 0: return new long[] {what, from(1, 16)};
            case 1: return new long[] {what, upTo(11)};
            case 4: return new long[] {what, upTo(65535) & random.nextInt(65536)};
            default: return new long[] {what, random.nextInt(9) == 0 ? upTo(131071) : random.nextInt(131072) & random.nextInt(131072)};
        }
    }

    // ---- texts: mostly right, else with one piece wrong

    private void text() throws Exception {
        StringBuilder text = new StringBuilder();
        int rules = random.nextInt(12) == 0 ? 8 + random.nextInt(2) : random.nextInt(4);
        for (int i = 0; i < rules; i++) {
            piece(text, SlowCity.KINDS[random.nextInt(6)]);
            if (rules < 8 && random.nextInt(4) > 0) {
                piece(text, "if");
                condition(text, 0);
            }
            piece(text, oneOf("draw", "rest", "rub"));
            piece(text, ";");
        }
        if (random.nextInt(3) == 0 && text.length() > 0) spoil(text);
        for (int i = 0; i < text.length(); i += 8) {
            long eight = 0;
            int n = Math.min(8, text.length() - i);
            for (int k = 0; k < n; k++) eight |= (long) (text.charAt(i + k) & 255) << 8 * k;
            call("feed", eight, n);
        }
        if (random.nextInt(6) > 0) call("rules");
    }

    private String oneOf(String... all) {
        return all[random.nextInt(all.length)];
    }

    private void piece(StringBuilder text, String piece) {
        boolean joins = text.length() > 0 && Character.isLetterOrDigit(text.charAt(text.length() - 1))
            && Character.isLetterOrDigit(piece.charAt(0));
        for (int blanks = (joins ? 1 : 0) + (random.nextInt(5) == 0 ? 1 : 0); blanks > 0; blanks--) text.append(' ');
        text.append(piece);
    }

    private void condition(StringBuilder text, int open) {
        one(text, open);
        while (random.nextInt(3) == 0) {
            piece(text, oneOf("or", "and"));
            one(text, open);
        }
    }

    private void one(StringBuilder text, int open) {
        while (random.nextInt(4) == 0) piece(text, "not");
        if (random.nextInt(3) == 0 && (open < 3 || random.nextInt(9) == 0)) {
            piece(text, "(");
            condition(text, open + 1);
            piece(text, ")");
            return;
        }
        piece(text, value());
        piece(text, oneOf("<", "=", ">"));
        piece(text, value());
    }

    private String value() {
        if (random.nextInt(3) > 0) return oneOf("dusk", "at", "facing", "chalk", "number");
        if (random.nextInt(12) == 0) return oneOf("9999", "10000", "0005", "00005");
        return Integer.toString(random.nextInt(random.nextInt(4) == 0 ? 120 : 8));
    }

    private void spoil(StringBuilder text) {
        int at = random.nextInt(text.length());
        switch (random.nextInt(4)) {
            case 0: text.deleteCharAt(at); break;
            case 1: text.setLength(at); break;
            case 2: text.setCharAt(at, (char) random.nextInt(256)); break;
            default: text.insert(at, oneOf(" ", "(", ")", "not ", ";", "x", "1", " hand ", " or ", "\t")); break;
        }
    }
}
