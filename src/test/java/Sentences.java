import java.util.ArrayList;
import java.util.List;
import java.util.function.Consumer;
import java.util.regex.Matcher;
import java.util.regex.Pattern;

/** Tests that bear the document's own words: each holds the class to one sentence of it, on objects of its own. */
abstract class Sentences {
    static final int BAD = -1, FULL = -2, NONE = -3, STATE = -4;
    static final int NO_ROW = -9, NOTHING = -11, OUTSIDE = -12, ANOTHER = -13, BELOW_NONE = -14, PARTED_BY_NONE = -15;
    static final int ALL_EDGES = 131071, ALL_CELLS = 4095, ALL_DUSKS = 65535;

    /** Promises 1 to this one have landed. */
    private static final int LANDED = 49;

    private static String document = "";
    /** Which of the document's signs stand in the words of some test. */
    private static boolean[] told = new boolean[0];
    private static String now = "";
    private static boolean holds;
    private static int passed = 0, failed = 0;

    interface Call {
        int on(ChalkWars x, int... a);
    }

    static void read(String text) {
        document = text.replaceAll("\\s+", " ");
        told = new boolean[document.length()];
    }

    /** A sentence that stands ahead of the promises. */
    static void says(String words, Consumer<ChalkWars> test) {
        holds(words, words, 0, document.indexOf("## Promise 1:"), test);
    }

    /** A sentence of a promise. */
    static void promise(int number, String words, Consumer<ChalkWars> test) {
        int from = document.indexOf("## Promise " + number + ":");
        int next = document.indexOf("## Promise " + (number + 1) + ":");
        holds("Promise " + number + ": " + words, words, from, next < 0 ? document.length() : next, test);
    }

    private static void holds(String name, String words, int from, int to, Consumer<ChalkWars> test) {
        now = name;
        holds = true;
        int place = document.indexOf(words, Math.max(0, from));
        if (from < 0 || place < 0 || place + words.length() > to) wrong("the document does not say so");
        else java.util.Arrays.fill(told, place, place + words.length(), true);
        try {
            test.accept(new ChalkWars());
        } catch (RuntimeException | StackOverflowError thrown) {
            wrong("threw " + thrown);
        }
        if (holds) passed++;
        else {
            failed++;
            System.out.println("broken: " + now);
        }
    }

    private static void wrong(String how) {
        holds = false;
        System.out.println("  " + now + ": " + how);
    }

    static void due(String what, int got, int want) {
        if (got != want) wrong(what + " answered " + got + ", due is " + want);
    }

    static void due(String what, String got, String want) {
        if (!got.equals(want)) wrong(what + " is\n    " + got + "\n  due is\n    " + want);
    }

    /** Argument i of a call is from least to most: what is just beside, or far off, is refused so; what is at the edge is not. */
    static void range(String what, ChalkWars x, Call call, int[] args, int i, int least, int most, int refused) {
        for (int v : new int[] {least - 1, most + 1, Integer.MIN_VALUE, Integer.MAX_VALUE}) {
            due(what + ", argument " + i + " = " + v, call.on(x, with(args, i, v)), refused);
        }
        for (int v : new int[] {least, most}) {
            if (call.on(x, with(args, i, v)) == refused) wrong(what + ", argument " + i + " = " + v + " is refused");
        }
    }

    private static int[] with(int[] args, int i, int v) {
        int[] all = args.clone();
        all[i] = v;
        return all;
    }

    static int[] args(int... all) {
        return all;
    }

    static void tell(ChalkWars x, String text) {
        for (int i = 0; i < text.length(); i += 8) {
            long eight = 0;
            int n = Math.min(8, text.length() - i);
            for (int k = 0; k < n; k++) eight |= (long) (text.charAt(i + k) & 255) << 8 * k;
            x.feed(eight, n);
        }
    }

    static int rulesOf(ChalkWars x, String text) {
        tell(x, text);
        return x.rules();
    }

    static void acts(ChalkWars x, int sheet, int... all) {
        x.sheet(sheet, 0, all.length);
        for (int i = 0; i < all.length; i++) x.write(sheet, i, all[i]);
    }

    /** One ACT ahead of one DUSK, by SHEET 3. */
    static int passWith(ChalkWars x, int act) {
        acts(x, 3, act);
        return x.goAll(3, 0, 1);
    }

    static ChalkWars with(int kind, int at, int facing, int chalk) {
        ChalkWars x = new ChalkWars();
        x.hand(kind, at, facing, chalk);
        return x;
    }

    /** A general by HOME: its draws of DUSKS 0 and 1 together shut HOME off from all else. */
    static ChalkWars besieged() {
        return with(2, 1, 2, 9);
    }

    /** z can only be seen by telling it anew. */
    static int chance(ChalkWars x) {
        int z = x.seed(0);
        x.seed(z);
        return z;
    }

    /** All that can be asked of what there is now, but for what is kept. */
    static String all(ChalkWars x) {
        StringBuilder all = new StringBuilder("hands");
        for (int h = 0; h < x.many(0); h++) for (int what = 0; what < 4; what++) all.append(' ').append(x.handOf(h, what));
        all.append(" wills");
        for (int h = 0; h < x.many(0); h++) all.append(' ').append(x.handOf(h, 8));
        all.append(" state");
        for (int what = 0; what < 9; what++) all.append(' ').append(x.state(what));
        all.append(" many");
        for (int what = 0; what < 7; what++) all.append(' ').append(x.many(what));
        all.append(" z ").append(chance(x)).append(" rows");
        for (int k = 0; k < x.many(4); k++) for (int what = 0; what < 3; what++) all.append(' ').append(x.row(k, what));
        all.append(" trace");
        for (int i = 0; i < x.many(6); i++) all.append(' ').append(x.trace(i));
        all.append(" reports ").append(x.span(0)).append(' ').append(x.liar()).append(" sheets");
        for (int s = 0; s < 4; s++) for (int sort = 0; sort < 5; sort++) all.append(' ').append(x.item(s, sort, 0));
        for (int i = 0; i < 4; i++) all.append(' ').append(x.item(0, 0, i)).append(' ').append(x.item(1, 1, i));
        all.append(" shelves");
        for (int s = 0; s < 4; s++) for (int as : new int[] {0, 10, 11, 14}) all.append(' ').append(x.taken(s, as));
        return all.toString();
    }

    /** Each promise that has landed, and each of the sections, stands over tests to its last word. */
    static void allTold() {
        now = "all words of the document stand over tests";
        holds = true;
        List<Integer> from = new ArrayList<>(), to = new ArrayList<>();
        from.add(document.indexOf("Answers below 0, where"));
        to.add(document.indexOf("Ahead of the calls `hand`"));
        Matcher m = Pattern.compile("## Promise \\d+: [^`]*`[^`]*`:").matcher(document);
        while (m.find()) {
            from.add(m.end());
            int end = document.indexOf("## ", m.end());
            to.add(end < 0 ? document.length() : end);
        }
        if (from.size() <= LANDED) wrong("there are " + (from.size() - 1) + " promises");
        for (int i = 0; i <= LANDED && i < from.size(); i++) {
            StringBuilder left = new StringBuilder();
            for (int k = Math.max(0, from.get(i)); k < to.get(i); k++) if (!told[k]) left.append(document.charAt(k));
            if (left.toString().replaceAll("```text|```|[^A-Za-z0-9]", "").length() > 0) wrong("no test says:" + left);
        }
        if (holds) passed++;
        else failed++;
    }

    static void end() {
        System.out.println(passed + " passed, " + failed + " failed");
        if (failed > 0) System.exit(1);
    }
}
