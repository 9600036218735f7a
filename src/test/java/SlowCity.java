import java.util.ArrayList;
import java.util.HashMap;
import java.util.LinkedHashSet;
import java.util.List;
import java.util.Map;
import java.util.Set;
import java.util.TreeSet;
import java.util.function.IntUnaryOperator;
import java.util.function.Predicate;

/**
 * The document once more, written apart from ChalkWars and as slowly as one likes: lists, sets, trees and
 * every set of EDGES tried. RandomRunsTest compares the two.
 */
final class SlowCity {
    static final int BAD = -1, FULL = -2, NONE = -3, STATE = -4;

    static final class Refused extends RuntimeException {
        private static final long serialVersionUID = 1;
        final int answer;
        Refused(int answer) {
            super(null, null, false, false);
            this.answer = answer;
        }
    }

    static void need(boolean is, int answer) {
        if (!is) throw new Refused(answer);
    }

    // ---- the map

    static final List<int[]> EDGES = new ArrayList<>();
    static {
        for (int r = 0; r < 3; r++) for (int c = 0; c < 3; c++) EDGES.add(new int[] {4 * r + c, 4 * r + c + 1});
        for (int r = 0; r < 2; r++) for (int c = 0; c < 4; c++) EDGES.add(new int[] {4 * r + c, 4 * r + c + 4});
    }

    static int cellAhead(int cell, int facing) {
        int row = cell / 4, column = cell % 4;
        if (facing == 0) column++;
        if (facing == 1) row++;
        if (facing == 2) column--;
        if (facing == 3) row--;
        return row < 0 || row > 2 || column < 0 || column > 3 ? -1 : 4 * row + column;
    }

    static int edgeBetween(int a, int b) {
        for (int e = 0; e < 17; e++) {
            int[] ends = EDGES.get(e);
            if (ends[0] == a && ends[1] == b || ends[0] == b && ends[1] == a) return e;
        }
        return -1;
    }

    static Map<Integer, Integer> stepsFrom(int cell, Set<Integer> lines) {
        Map<Integer, Integer> steps = new HashMap<>();
        List<Integer> queue = new ArrayList<>();
        steps.put(cell, 0);
        queue.add(cell);
        for (int i = 0; i < queue.size(); i++) {
            int at = queue.get(i);
            for (int f = 0; f < 4; f++) {
                int to = cellAhead(at, f);
                if (to >= 0 && !lines.contains(edgeBetween(at, to)) && !steps.containsKey(to)) {
                    steps.put(to, steps.get(at) + 1);
                    queue.add(to);
                }
            }
        }
        return steps;
    }

    static Set<Integer> setOf(int bits) {
        Set<Integer> set = new TreeSet<>();
        for (int i = 0; i < 31; i++) if ((bits & 1 << i) != 0) set.add(i);
        return set;
    }

    static int bitsOf(Set<Integer> set) {
        int bits = 0;
        for (int i : set) bits += 1 << i;
        return bits;
    }

    // ---- hands

    static final String[] KINDS = {"hand", "child", "general", "mother", "rubber", "dog"};

    static List<String> lineage(int kind) {
        List<String> all = new ArrayList<>();
        String name = KINDS[kind];
        while (name != null) {
            all.add(name);
            switch (name) {
                case "child": case "general": case "rubber": name = "hand"; break;
                case "mother": name = "general"; break;
                case "dog": name = "rubber"; break;
                default: name = null;
            }
        }
        return all;
    }

    static final class Hand {
        int kind, at, facing, chalk;
        Hand(int kind, int at, int facing, int chalk) {
            this.kind = kind;
            this.at = at;
            this.facing = facing;
            this.chalk = chalk;
        }
        Hand copy() {
            return new Hand(kind, at, facing, chalk);
        }
        String name() {
            return KINDS[kind];
        }
        Set<Integer> strokes() {
            Set<Integer> all = new TreeSet<>();
            if (!name().equals("mother")) all.add(facing);
            if (name().equals("child")) all.add((facing + 2) % 4);
            if (lineage(kind).contains("general")) {
                for (int f = 0; f < 4; f++) if (f != (facing + 2) % 4 && f != facing) all.add(f);
            }
            if (name().equals("dog")) for (int f = 0; f < 4; f++) all.add(f);
            return all;
        }
        int costs() {
            return Map.of("child", 2, "general", 3, "mother", 2, "rubber", 0, "dog", 0).get(name());
        }
        int turns() {
            return Map.of("child", 2, "general", 1, "mother", 3, "rubber", 1, "dog", 2).get(name());
        }
        boolean rubs() {
            return lineage(kind).contains("rubber");
        }
        void walk(Set<Integer> lines) {
            int to = cellAhead(at, facing);
            boolean free = to >= 0 && (name().equals("dog") || !lines.contains(edgeBetween(at, to)));
            if (free) at = to;
            else facing = (facing + turns()) % 4;
        }
    }

    // ---- the rules

    static final class Rule {
        String kind, doing;
        Predicate<int[]> condition;
    }

    /** A reader that goes by pieces of text. */
    static final class Text {
        final List<String> pieces = new ArrayList<>();
        final List<Integer> places = new ArrayList<>();
        int at = 0;
        Text(String text) {
            int i = 0;
            while (i < text.length()) {
                int from = i;
                String c = text.substring(i, i + 1);
                if (c.matches("[a-z]")) {
                    while (i < text.length() && text.substring(i, i + 1).matches("[a-z]")) i++;
                } else if (c.matches("[0-9]")) {
                    while (i < text.length() && text.substring(i, i + 1).matches("[0-9]")) i++;
                } else {
                    i++;
                    if (c.equals(" ")) continue;
                }
                pieces.add(text.substring(from, i));
                places.add(from);
            }
            pieces.add("");
            places.add(text.length());
        }
        String now() {
            return pieces.get(at);
        }
        Refused fault() {
            return new Refused(-100 - places.get(at));
        }
        String oneOf(String... any) {
            for (String s : any) if (s.equals(now())) {
                at++;
                return s;
            }
            throw fault();
        }
        boolean is(String s) {
            return now().equals(s);
        }
        List<Rule> rules() {
            List<Rule> all = new ArrayList<>();
            while (!is("")) {
                if (all.size() == 8) throw fault();
                Rule rule = new Rule();
                rule.kind = oneOf(KINDS);
                rule.condition = facts -> true;
                if (is("if")) {
                    at++;
                    rule.condition = condition(0);
                }
                rule.doing = oneOf("draw", "rest", "rub");
                oneOf(";");
                all.add(rule);
            }
            return all;
        }
        Predicate<int[]> condition(int open) {
            Predicate<int[]> left = each(open);
            if (!is("or")) return left;
            at++;
            Predicate<int[]> right = condition(open);
            return facts -> left.test(facts) || right.test(facts);
        }
        Predicate<int[]> each(int open) {
            Predicate<int[]> left = one(open);
            if (!is("and")) return left;
            at++;
            Predicate<int[]> right = each(open);
            return facts -> left.test(facts) && right.test(facts);
        }
        Predicate<int[]> one(int open) {
            if (is("not")) {
                at++;
                Predicate<int[]> other = one(open);
                return facts -> !other.test(facts);
            }
            if (is("(")) {
                if (open == 3) throw fault();
                at++;
                Predicate<int[]> within = condition(open + 1);
                oneOf(")");
                return within;
            }
            java.util.function.ToIntFunction<int[]> left = value();
            String sign = oneOf("<", "=", ">");
            java.util.function.ToIntFunction<int[]> right = value();
            return facts -> {
                int a = left.applyAsInt(facts), b = right.applyAsInt(facts);
                return sign.equals("<") ? a < b : sign.equals("=") ? a == b : a > b;
            };
        }
        java.util.function.ToIntFunction<int[]> value() {
            if (now().matches("[0-9]{1,4}")) {
                int n = Integer.parseInt(oneOf(now()));
                return facts -> n;
            }
            List<String> names = List.of("dusk", "at", "facing", "chalk", "number");
            int which = names.indexOf(now());
            if (which < 0) throw fault();
            at++;
            return facts -> facts[which];
        }
    }

    // ---- all that is kept

    static final class World {
        List<Hand> hands = new ArrayList<>();
        List<Rule> rules = new ArrayList<>();
        List<int[]> reports = new ArrayList<>();
        Set<Integer> lines = new TreeSet<>(), dry = new TreeSet<>(), rain = new TreeSet<>();
        int home = 0, end = 12, dusk = 0, score = 0, z = 1;

        World copy() {
            World w = new World();
            for (Hand h : hands) w.hands.add(h.copy());
            w.rules = rules;
            w.reports = new ArrayList<>(reports);
            w.lines = new TreeSet<>(lines);
            w.dry = new TreeSet<>(dry);
            w.rain = new TreeSet<>(rain);
            w.home = home;
            w.end = end;
            w.dusk = dusk;
            w.score = score;
            w.z = z;
            return w;
        }
        boolean over() {
            return dusk >= end;
        }
        Set<Integer> shut() {
            Set<Integer> all = new TreeSet<>();
            Map<Integer, Integer> steps = stepsFrom(home, lines);
            for (int c = 0; c < 12; c++) if (!steps.containsKey(c)) all.add(c);
            return all;
        }
        String will(int h) {
            Hand hand = hands.get(h);
            int[] facts = {dusk, hand.at, hand.facing, hand.chalk, h};
            for (Rule rule : rules) {
                if (lineage(hand.kind).contains(rule.kind) && rule.condition.test(facts)) return rule.doing;
            }
            return "draw";
        }
        int pass(int act) {
            for (Hand hand : hands) hand.walk(lines);
            if (act > 0) {
                Hand hand = hands.get(act - 1);
                String will = will(act - 1);
                Set<Integer> edges = new TreeSet<>();
                for (int f : hand.strokes()) {
                    int to = cellAhead(hand.at, f);
                    if (to >= 0) edges.add(edgeBetween(hand.at, to));
                }
                if (will.equals("rub") || will.equals("draw") && hand.rubs()) {
                    lines.removeAll(edges);
                } else if (will.equals("draw") && hand.chalk >= hand.costs()) {
                    hand.chalk -= hand.costs();
                    lines.addAll(edges);
                }
            }
            if (rain.contains(dusk)) lines.retainAll(dry);
            int worth = shut().size();
            score += worth;
            dusk++;
            return worth;
        }
        int turnAct() {
            return hands.isEmpty() ? 0 : dusk % hands.size() + 1;
        }
        int lotPass() {
            z = z * 1103515245 + 12345;
            return pass((z >>> 16) % (hands.size() + 1));
        }
        int rest() {
            int worth = 0;
            while (!over()) worth += pass(turnAct());
            return worth;
        }
    }

    World world = new World();
    World kept = null;
    List<Integer> tape = new ArrayList<>();
    List<int[]> rows = new ArrayList<>();
    Object[] sheets = new Object[4];
    Object[] shelves = new Object[4];
    List<Integer> trace = new ArrayList<>();

    static final class Numbered {
        final int number;
        Numbered(int number) {
            this.number = number;
        }
    }

    static boolean within(int v, int least, int most) {
        return v >= least && v <= most;
    }

    Hand handAt(int h) {
        need(within(h, 0, world.hands.size() - 1), BAD);
        return world.hands.get(h);
    }

    int hand(int kind, int at, int facing, int chalk) {
        need(within(kind, 1, 5) && within(at, 0, 11) && within(facing, 0, 3) && within(chalk, 0, 9), BAD);
        need(world.hands.size() < 6, FULL);
        world.hands.add(new Hand(kind, at, facing, chalk));
        return world.hands.size() - 1;
    }

    int handOf(int h, int what) {
        Hand hand = handAt(h);
        need(within(what, 0, 8), BAD);
        switch (what) {
            case 0: return hand.kind;
            case 1: return hand.at;
            case 2: return hand.facing;
            case 3: return hand.chalk;
            case 4: return bitsOf(hand.strokes());
            case 5: return hand.costs();
            case 6: return hand.turns();
            case 7: return hand.rubs() ? 1 : 0;
            default: return List.of("draw", "rest", "rub").indexOf(world.will(h));
        }
    }

    int change(int h, int what, int v) {
        Hand hand = handAt(h);
        need(within(what, 1, 3), BAD);
        int was = handOf(h, what);
        need(within(v, 0, what == 1 ? 11 : what == 2 ? 3 : 9), BAD);
        if (what == 1) hand.at = v;
        if (what == 2) hand.facing = v;
        if (what == 3) hand.chalk = v;
        return was;
    }

    int remake(int h, int kind) {
        Hand hand = handAt(h);
        need(within(kind, 1, 5), BAD);
        int was = hand.kind;
        hand.kind = kind;
        return was;
    }

    int set(int what, int v) {
        need(within(what, 0, 4), BAD);
        int was;
        if (what == 0) {
            need(within(v, 1, 16), BAD);
            need(v >= world.dusk, STATE);
            was = world.end;
            world.end = v;
        } else if (what == 1) {
            need(within(v, 0, 11), BAD);
            was = world.home;
            world.home = v;
        } else if (what == 4) {
            need(within(v, 0, 65535), BAD);
            was = bitsOf(world.rain);
            world.rain = setOf(v);
        } else {
            need(within(v, 0, 131071), BAD);
            was = bitsOf(what == 2 ? world.lines : world.dry);
            if (what == 2) world.lines = setOf(v);
            else world.dry = setOf(v);
        }
        return was;
    }

    int edge(int cell, int facing) {
        need(within(cell, 0, 11) && within(facing, 0, 3), BAD);
        int to = cellAhead(cell, facing);
        need(to >= 0, NONE);
        return edgeBetween(cell, to);
    }

    int anew() {
        int was = world.dusk;
        world.dusk = 0;
        world.score = 0;
        world.lines.clear();
        return was;
    }

    int state(int what) {
        need(within(what, 0, 8), BAD);
        World w = world;
        return new int[] {w.dusk, w.end, w.score, w.over() ? 1 : 0, bitsOf(w.shut()), w.home,
            bitsOf(w.lines), bitsOf(w.dry), bitsOf(w.rain)}[what];
    }

    int feed(long eight, int n) {
        need(within(n, 1, 8), BAD);
        need(tape.size() + n <= 200, FULL);
        for (int i = 0; i < n; i++) {
            tape.add((int) (eight & 255));
            eight >>= 8;
        }
        return tape.size();
    }

    int rules() {
        StringBuilder text = new StringBuilder();
        for (int b : tape) text.append((char) b);
        tape.clear();
        world.rules = new Text(text.toString()).rules();
        return world.rules.size();
    }

    int dusk() {
        need(!world.over(), STATE);
        return world.pass(world.turnAct());
    }

    int on(int n) {
        need(within(n, 0, 16), BAD);
        World w = world.copy();
        int worth = 0;
        for (int i = 0; i < n; i++) if (!w.over()) worth += w.pass(w.turnAct());
        return worth;
    }

    int when(int cell) {
        need(within(cell, 0, 11), BAD);
        World w = world.copy();
        need(!w.shut().contains(cell), NONE);
        while (!w.over()) {
            w.pass(w.turnAct());
            if (w.shut().contains(cell)) return w.dusk - 1;
        }
        return NONE;
    }

    int leastBest(int values, IntUnaryOperator worth) {
        int best = 0;
        for (int v = 1; v < values; v++) if (worth.applyAsInt(v) > worth.applyAsInt(best)) best = v;
        return best;
    }

    int chalkFor(int h) {
        handAt(h);
        return leastBest(10, v -> {
            World w = world.copy();
            w.hands.get(h).chalk = v;
            return w.rest();
        });
    }

    int facingFor(int h) {
        handAt(h);
        return leastBest(4, v -> {
            World w = world.copy();
            w.hands.get(h).facing = v;
            return w.rest();
        });
    }

    int cut(int cell, int what) {
        need(within(cell, 0, 11) && within(what, 0, 1), BAD);
        need(cell != world.home, NONE);
        for (int size = 0; size <= 17; size++) {
            for (int bits = 0; bits < 131072; bits++) {
                if (Integer.bitCount(bits) != size || (bits & bitsOf(world.lines)) != 0) continue;
                Set<Integer> lines = setOf(bits);
                lines.addAll(world.lines);
                if (!stepsFrom(world.home, lines).containsKey(cell)) return what == 0 ? size : bits;
            }
        }
        throw new IllegalStateException();
    }

    int way(int cell, int other) {
        need(within(cell, 0, 11) && within(other, 0, 11), BAD);
        Integer steps = stepsFrom(cell, world.lines).get(other);
        need(steps != null, NONE);
        return steps;
    }

    int bridges() {
        Set<Integer> found = new TreeSet<>();
        for (int e = 0; e < 17; e++) {
            if (world.lines.contains(e)) continue;
            World w = world.copy();
            w.lines.add(e);
            if (w.shut().size() > world.shut().size()) found.add(e);
        }
        return bitsOf(found);
    }

    // ---- plans: every one is walked from how it is now

    static final class Plan {
        List<Integer> acts = new ArrayList<>();
        int worth = 0;
        Set<Integer> shut;
        int told() {
            int n = 0;
            for (int act : acts) if (act != 0) n++;
            return n;
        }
    }

    List<Plan> plans(int n) {
        int length = Math.min(n, world.end - world.dusk);
        int acts = world.hands.size() + 1;
        int many = 1;
        for (int i = 0; i < length; i++) many *= acts;
        List<Plan> all = new ArrayList<>();
        for (int number = 0; number < many; number++) {
            Plan plan = new Plan();
            int left = number;
            for (int i = 0; i < length; i++) {
                plan.acts.add(0, left % acts);
                left /= acts;
            }
            World w = world.copy();
            for (int act : plan.acts) plan.worth += w.pass(act);
            plan.shut = w.shut();
            all.add(plan);
        }
        return all;
    }

    List<Plan> bestPlans(int n) {
        need(within(n, 0, 4), BAD);
        int most = 0;
        List<Plan> all = plans(n);
        for (Plan p : all) most = Math.max(most, p.worth);
        List<Plan> best = new ArrayList<>();
        for (Plan p : all) if (p.worth == most) best.add(p);
        return best;
    }

    int best(int n) {
        return bestPlans(n).get(0).worth;
    }

    int ith(int n, int i) {
        need(within(n, 0, 4) && within(i, 0, 3), BAD);
        List<Integer> acts = bestPlans(n).get(0).acts;
        need(i < acts.size(), NONE);
        return acts.get(i);
    }

    int ways(int n) {
        return bestPlans(n).size();
    }

    int siege(int n, int set) {
        need(within(n, 0, 4) && within(set, 0, 4095), BAD);
        int fewest = 99;
        for (Plan p : plans(n)) if (p.shut.containsAll(setOf(set))) fewest = Math.min(fewest, p.told());
        need(fewest < 99, NONE);
        return fewest;
    }

    int bars(int n, int set) {
        need(within(n, 0, 4) && within(set, 0, 4095), BAD);
        Set<Integer> left = new TreeSet<>(setOf(set));
        for (Plan p : plans(n)) left.removeAll(p.shut);
        need(!left.isEmpty(), NONE);
        return left.iterator().next();
    }

    int value(World w, int n, boolean first) {
        if (n == 0 || w.over()) return 0;
        List<Integer> all = new ArrayList<>();
        for (int act = 0; act <= w.hands.size(); act++) all.add(valueBehind(w, act, n, first));
        return first ? java.util.Collections.max(all) : java.util.Collections.min(all);
    }

    int valueBehind(World w, int act, int n, boolean first) {
        World next = w.copy();
        int worth = next.pass(act);
        return worth + value(next, n - 1, !first);
    }

    int game(int n) {
        need(within(n, 1, 4), BAD);
        return value(world, n, true);
    }

    int play(int n) {
        need(within(n, 1, 4), BAD);
        need(!world.over(), NONE);
        int act = 0;
        while (valueBehind(world, act, n, true) != game(n)) act++;
        return act;
    }

    // ---- strange hands

    int report(int k, int least, int most) {
        need(within(k, 0, 15) && within(least, 0, 11) && within(most, 0, 11) && most >= least, BAD);
        need(world.reports.size() < 6, FULL);
        world.reports.add(new int[] {k, least, most});
        return world.reports.size() - 1;
    }

    int forget() {
        int was = world.reports.size();
        world.reports.clear();
        return was;
    }

    static List<int[]> fitting(List<int[]> reports) {
        List<int[]> all = new ArrayList<>();
        for (int kind = 1; kind <= 5; kind++) for (int cell = 0; cell < 12; cell++) for (int f = 0; f < 4; f++) {
            boolean fits = true;
            for (int[] report : reports) {
                Hand strange = new Hand(kind, cell, f, 0);
                for (int i = 0; i < report[0]; i++) strange.walk(Set.of());
                fits &= within(strange.at, report[1], report[2]);
            }
            if (fits) all.add(new int[] {kind, cell, f});
        }
        return all;
    }

    int span(int what) {
        need(within(what, 0, 3), BAD);
        List<int[]> all = fitting(world.reports);
        if (what == 0) return all.size();
        need(!all.isEmpty(), NONE);
        return all.get(0)[what - 1];
    }

    int liar() {
        need(fitting(world.reports).isEmpty(), NONE);
        for (int i = 0; i < world.reports.size(); i++) {
            List<int[]> others = new ArrayList<>(world.reports);
            others.remove(i);
            if (!fitting(others).isEmpty()) return i;
        }
        return NONE;
    }

    int seed(int v) {
        int was = world.z;
        world.z = v;
        return was;
    }

    int lot() {
        need(!world.over(), STATE);
        return world.lotPass();
    }

    int times(int n, int v) {
        need(within(n, 1, 40) && within(v, 0, 999), BAD);
        int z = world.z, enough = 0;
        for (int i = 0; i < n; i++) {
            World w = world.copy();
            w.z = z;
            int worth = 0;
            while (!w.over()) worth += w.lotPass();
            if (worth >= v) enough++;
            z = w.z;
        }
        return enough;
    }

    // ---- rows

    int prove(int n) {
        List<Integer> acts = bestPlans(n).get(0).acts;
        rows.clear();
        World w = world.copy();
        for (int act : acts) {
            int worth = w.pass(act);
            rows.add(new int[] {act, worth, bitsOf(w.shut())});
        }
        return rows.size();
    }

    int row(int k, int what) {
        need(within(k, 0, rows.size() - 1) && within(what, 0, 2), -9);
        return rows.get(k)[what];
    }

    int alterRow(int k, int what, int v) {
        int was = row(k, what);
        rows.get(k)[what] = v;
        return was;
    }

    int judge() {
        World w = world.copy();
        for (int k = 0; k < rows.size(); k++) {
            int[] row = rows.get(k);
            if (w.over() || !within(row[0], 0, w.hands.size())) return k + 1;
            int worth = w.pass(row[0]);
            if (row[1] != worth || row[2] != bitsOf(w.shut())) return k + 1;
        }
        return 0;
    }

    // ---- the host: real rows of real sorts

    static Object rowOf(int sort, int n) {
        switch (sort) {
            case 0: return new byte[n];
            case 1: return new short[n];
            case 2: return new int[n];
            case 3: return new long[n];
            default: return new boolean[n];
        }
    }

    static int sortOf(Object row) {
        return List.of("byte[]", "short[]", "int[]", "long[]", "boolean[]").indexOf(row.getClass().getSimpleName());
    }

    int sheet(int sheet, int sort, int n) {
        need(within(sheet, 0, 3) && within(sort, -1, 4), BAD);
        if (sort == -1) {
            sheets[sheet] = null;
            return 1;
        }
        need(n <= 40, BAD);
        need(n >= 0, -14);
        sheets[sheet] = rowOf(sort, n);
        return 1;
    }

    static void mustHave(Object row, int i) {
        need(within(i, 0, java.lang.reflect.Array.getLength(row) - 1), -12);
    }

    int write(int sheet, int i, int v) {
        need(within(sheet, 0, 3), BAD);
        Object row = sheets[sheet];
        need(row != null, -11);
        mustHave(row, i);
        if (row instanceof byte[]) ((byte[]) row)[i] = (byte) v;
        if (row instanceof short[]) ((short[]) row)[i] = (short) v;
        if (row instanceof int[]) ((int[]) row)[i] = v;
        if (row instanceof long[]) ((long[]) row)[i] = v;
        if (row instanceof boolean[]) ((boolean[]) row)[i] = v != 0;
        return 1;
    }

    int item(int sheet, int sort, int i) {
        need(within(sheet, 0, 3) && within(sort, 0, 4), BAD);
        Object row = sheets[sheet];
        need(row == null || sortOf(row) == sort, -13);
        need(row != null, -11);
        mustHave(row, i);
        switch (sort) {
            case 0: return ((byte[]) row)[i];
            case 1: return ((short[]) row)[i];
            case 2: return ((int[]) row)[i];
            case 3: return (int) ((long[]) row)[i];
            default: return ((boolean[]) row)[i] ? 1 : 0;
        }
    }

    byte[] bytesOf(int sheet, int n) {
        need(within(sheet, 0, 3) && within(n, 0, 20), BAD);
        Object row = sheets[sheet];
        need(row == null || row instanceof byte[], -13);
        need(row != null, -11);
        return (byte[]) row;
    }

    int goAll(int sheet, int i, int n) {
        byte[] row = bytesOf(sheet, n);
        int worth = 0;
        for (int k = 0; k < n; k++) {
            mustHave(row, i + k);
            if (within(row[i + k], 0, world.hands.size()) && !world.over()) worth += world.pass(row[i + k]);
        }
        return worth;
    }

    int wouldBe(int sheet, int i, int n) {
        byte[] row = bytesOf(sheet, n);
        World w = world.copy();
        int worth = 0;
        for (int k = 0; k < n; k++) {
            mustHave(row, i + k);
            need(within(row[i + k], 0, w.hands.size()) && !w.over(), STATE);
            worth += w.pass(row[i + k]);
        }
        return worth;
    }

    int shelf(int shelf, int what, int n) {
        need(within(shelf, 0, 3) && within(what, 0, 2), BAD);
        need(what != 0 || within(n, 0, world.hands.size() - 1), BAD);
        need(what != 1 || within(n, 0, 3), BAD);
        shelves[shelf] = what == 0 ? new Numbered(n) : what == 1 ? sheets[n] : null;
        return 1;
    }

    Object onShelf(int shelf) {
        Object thing = shelves[shelf];
        if (thing instanceof Numbered && ((Numbered) thing).number >= world.hands.size()) return null;
        return thing;
    }

    int taken(int shelf, int as) {
        need(within(shelf, 0, 3) && (within(as, 0, 5) || within(as, 10, 14)), BAD);
        Object thing = onShelf(shelf);
        need(thing != null, -11);
        if (thing instanceof Numbered) {
            int h = ((Numbered) thing).number;
            need(as < 10 && lineage(world.hands.get(h).kind).contains(KINDS[as]), -13);
            return h;
        }
        need(sortOf(thing) == as - 10, -13);
        return java.lang.reflect.Array.getLength(thing);
    }

    /** Bodies by the document's table: a KIND's own one, else the one above. */
    private static final class Acting {
        final List<String> lineage;
        final int n, a;
        final List<Integer> trace;
        Acting(List<String> lineage, int n, int a, List<Integer> trace) {
            this.lineage = lineage;
            this.n = n;
            this.a = a;
            this.trace = trace;
        }
        int run(String act, int from, int x) {
            for (int i = from; i < lineage.size(); i++) {
                Integer body = Map.of("hand chalks", 10, "hand shouts", 11, "hand parts", 12, "hand wins", 13,
                    "child chalks", 20, "general shouts", 30, "rubber parts", 40, "mother chalks", 50,
                    "mother wins", 51, "dog shouts", 60).get(lineage.get(i) + " " + act);
                if ((lineage.get(i) + " " + act).equals("dog parts")) body = 61;
                if (body != null) {
                    if (trace.size() < 30) trace.add(body);
                    return body(body, i + 1, x);
                }
            }
            throw new IllegalStateException();
        }
        int body(int body, int above, int x) {
            switch (body) {
                case 10: return x ^ (n + 5);
                case 11: return run("chalks", 0, x) - a;
                case 12:
                    need(a != n, -15);
                    return x % (a - n);
                case 13: {
                    int shouted = run("shouts", 0, x);
                    return shouted * 2 + run("parts", 0, x);
                }
                case 20: return run("chalks", above, x) * 5;
                case 30: return run("shouts", above, x) ^ x;
                case 40: return run("parts", above, x) - n;
                case 50: return run("chalks", above, x + n);
                case 51: {
                    int won = run("wins", above, x);
                    return won - run("shouts", 0, a);
                }
                case 60: return run("shouts", above, x) * 3;
                case 61: {
                    int parted = run("parts", above, x);
                    return parted ^ run("chalks", 0, n);
                }
                default: throw new IllegalStateException();
            }
        }
    }

    int act(int shelf, int act, int x) {
        trace.clear();
        need(within(shelf, 0, 3) && within(act, 0, 3), 0);
        Object thing = onShelf(shelf);
        need(thing instanceof Numbered, 0);
        int h = ((Numbered) thing).number;
        Hand hand = world.hands.get(h);
        String name = List.of("chalks", "shouts", "parts", "wins").get(act);
        return new Acting(lineage(hand.kind), h, hand.chalk, trace).run(name, 0, x);
    }

    int trace(int i) {
        need(within(i, 0, trace.size() - 1), NONE);
        return trace.get(i);
    }

    int many(int what) {
        need(within(what, 0, 6), BAD);
        return new int[] {world.hands.size(), world.rules.size(), world.shut().size(), world.reports.size(),
            rows.size(), tape.size(), trace.size()}[what];
    }

    int keep() {
        kept = world.copy();
        return 1;
    }

    int again() {
        need(kept != null, NONE);
        world = kept.copy();
        return world.hands.size();
    }

    /** A call by its name, refusals answered. */
    int call(String name, long... args) {
        try {
            return answer(name, args);
        } catch (Refused refused) {
            return refused.answer;
        }
    }

    private int answer(String name, long[] args) {
        try {
            for (java.lang.reflect.Method m : SlowCity.class.getDeclaredMethods()) {
                if (m.getName().equals(name) && m.getParameterCount() == args.length && isCall(m)) {
                    return (Integer) m.invoke(this, boxed(m, args));
                }
            }
        } catch (java.lang.reflect.InvocationTargetException thrown) {
            if (thrown.getCause() instanceof Refused) throw (Refused) thrown.getCause();
            throw new IllegalStateException(name, thrown.getCause());
        } catch (IllegalAccessException never) {
            throw new IllegalStateException(never);
        }
        throw new IllegalArgumentException(name);
    }

    static boolean isCall(java.lang.reflect.Method m) {
        Set<Class<?>> types = new LinkedHashSet<>(List.of(m.getParameterTypes()));
        types.remove(int.class);
        types.remove(long.class);
        return types.isEmpty() && m.getReturnType() == int.class;
    }

    static Object[] boxed(java.lang.reflect.Method m, long[] args) {
        Object[] all = new Object[args.length];
        for (int i = 0; i < args.length; i++) {
            all[i] = m.getParameterTypes()[i] == long.class ? (Object) args[i] : (Object) (int) args[i];
        }
        return all;
    }
}
