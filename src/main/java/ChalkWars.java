/**
 * Chalk wars: hands walk a slate city at dusk and shut cells from home by lines of chalk.
 * The document (../shared/DOC.md) tells every rule; its words are the names here.
 */
public final class ChalkWars {
    public static final int BAD = -1, FULL = -2, NONE = -3, STATE = -4;

    private static final int NO_ROW = -9;
    private static final int NOTHING = -11, OUTSIDE = -12, ANOTHER = -13, BELOW_NONE = -14, PARTED_BY_NONE = -15;

    private static final int CELLS = 12, ALL_CELLS = 4095, EDGES = 17, ALL_EDGES = 131071;
    private static final int DUSKS = 16, ALL_DUSKS = 65535;
    private static final int MOST_HANDS = 6, MOST_CHALK = 9, FACINGS = 4;
    private static final int CHILD = 1, GENERAL = 2, MOTHER = 3, RUBBER = 4, DOG = 5;
    private static final int KIND_OF = 0, AT_OF = 1, FACING_OF = 2, CHALK_OF = 3, TOLD_OF_A_HAND = 4;
    private static final int FACTS = 5;
    private static final int DRAW = 0, REST = 1, RUB = 2;
    private static final int MOST_TAPE = 200, MOST_RULES = 8, RULES_FAULT = -100;
    private static final int MOST_PLAN = 4, MOST_TIMES = 40, MOST_WORTH = 999;
    private static final int MOST_REPORTS = 6, STRANGE_HANDS = 240;
    private static final int ROW_LENGTH = 3;
    private static final int SHEETS = 4, SORTS = 5, MOST_ITEMS = 40, MOST_ACTS = 20, MISSING = -1;
    private static final int BYTES = 0, SHORTS = 1, BOOLEANS = 4;
    private static final int SHELVES = 4, A_HAND = 0, A_ROW = 1, EMPTY = 2, AS_ROW = 10;
    private static final int MOST_BODIES = 30;

    private final City city = new City();
    private final City kept = new City();
    private final City trial = new City();
    private final Plans plans = new Plans();
    private boolean isKept;
    private final Reader reader = new Reader();
    private final int[][] rows = new int[MOST_PLAN][ROW_LENGTH];
    private int rowCount;
    private final int[] sorts = new int[SHEETS];
    private final int[] sizes = new int[SHEETS];
    private final int[][] items = new int[SHEETS][MOST_ITEMS];
    private final int[] shelfHolds = new int[SHELVES];
    /** The number of a HAND, or the sort of a row. */
    private final int[] shelfThing = new int[SHELVES];
    /** A row stays as long as it was when it was laid there, whatever its SHEET becomes. */
    private final int[] shelfSize = new int[SHELVES];
    private final Thing[] things = new Thing[DOG + 1];
    private Thing latest;

    public ChalkWars() {
        for (int i = 0; i < SHEETS; i++) {
            sorts[i] = MISSING;
        }
        for (int i = 0; i < SHELVES; i++) {
            shelfHolds[i] = EMPTY;
        }
        things[CHILD] = new Child();
        things[GENERAL] = new General();
        things[MOTHER] = new Mother();
        things[RUBBER] = new Rubber();
        things[DOG] = new Dog();
    }

    // ---- the city, hands

    public int hand(int kind, int at, int facing, int chalk) {
        if (!isHandKind(kind) || !isCell(at) || !isFacing(facing) || !isChalk(chalk)) {
            return BAD;
        }
        if (city.count >= MOST_HANDS) {
            return FULL;
        }
        return city.add(kind, at, facing, chalk);
    }

    public int handOf(int h, int what) {
        if (!isHand(h)) {
            return BAD;
        }
        int kind = city.get(h, KIND_OF);
        switch (what) {
            case 0: case 1: case 2: case 3: return city.get(h, what);
            case 4: return City.strokesOf(kind, city.get(h, FACING_OF));
            case 5: return City.costsOf(kind);
            case 6: return City.turnsOf(kind);
            case 7: return City.rubs(kind) ? 1 : 0;
            case 8: return city.willOf(h);
            default: return BAD;
        }
    }

    public int change(int h, int what, int v) {
        if (!isHand(h) || !isPlaceInHand(what, v)) {
            return BAD;
        }
        return city.put(h, what, v);
    }

    public int remake(int h, int kind) {
        if (!isHand(h) || !isHandKind(kind)) {
            return BAD;
        }
        return city.put(h, KIND_OF, kind);
    }

    public int set(int what, int v) {
        switch (what) {
            case 0: return setEnd(v);
            case 1: return isCell(v) ? setHome(v) : BAD;
            case 2: return isSet(v, ALL_EDGES) ? setLines(v) : BAD;
            case 3: return isSet(v, ALL_EDGES) ? setDry(v) : BAD;
            case 4: return isSet(v, ALL_DUSKS) ? setRain(v) : BAD;
            default: return BAD;
        }
    }

    private int setEnd(int v) {
        if (v < 1 || v > DUSKS) {
            return BAD;
        }
        if (v < city.dusk) {
            return STATE;
        }
        int was = city.end;
        city.end = v;
        return was;
    }

    private int setHome(int v) {
        int was = city.home;
        city.home = v;
        return was;
    }

    private int setLines(int v) {
        int was = city.lines;
        city.lines = v;
        return was;
    }

    private int setDry(int v) {
        int was = city.dry;
        city.dry = v;
        return was;
    }

    private int setRain(int v) {
        int was = city.rain;
        city.rain = v;
        return was;
    }

    public int edge(int cell, int facing) {
        if (!isCell(cell) || !isFacing(facing)) {
            return BAD;
        }
        return City.beside(cell, facing) < 0 ? NONE : City.edgeAhead(cell, facing);
    }

    public int anew() {
        int was = city.dusk;
        city.dusk = 0;
        city.score = 0;
        city.lines = 0;
        return was;
    }

    public int state(int what) {
        switch (what) {
            case 0: return city.dusk;
            case 1: return city.end;
            case 2: return city.score;
            case 3: return city.isOver() ? 1 : 0;
            case 4: return city.shutCells();
            case 5: return city.home;
            case 6: return city.lines;
            case 7: return city.dry;
            case 8: return city.rain;
            default: return BAD;
        }
    }

    private boolean isHand(int h) {
        return h >= 0 && h < city.count;
    }

    private boolean isAct(int v) {
        return v >= 0 && v <= city.count;
    }

    private static boolean isHandKind(int v) {
        return v >= CHILD && v <= DOG;
    }

    private static boolean isCell(int v) {
        return v >= 0 && v < CELLS;
    }

    private static boolean isFacing(int v) {
        return v >= 0 && v < FACINGS;
    }

    private static boolean isChalk(int v) {
        return v >= 0 && v <= MOST_CHALK;
    }

    private static boolean isSet(int v, int all) {
        return v >= 0 && v <= all;
    }

    private static boolean isPlaceInHand(int what, int v) {
        switch (what) {
            case AT_OF: return isCell(v);
            case FACING_OF: return isFacing(v);
            case CHALK_OF: return isChalk(v);
            default: return false;
        }
    }

    // ---- the rules

    public int feed(long eight, int n) {
        if (n < 1 || n > 8) {
            return BAD;
        }
        if (reader.fed + n > MOST_TAPE) {
            return FULL;
        }
        for (int i = 0; i < n; i++) {
            reader.take((byte) (eight >>> 8 * i));
        }
        return reader.fed;
    }

    public int rules() {
        Rules told = new Rules(reader.fed);
        reader.split();
        if (!reader.readsAll(told)) {
            return RULES_FAULT - reader.fault();
        }
        city.rules = told;
        return told.count;
    }

    // ---- dusks

    public int dusk() {
        return city.isOver() ? STATE : city.pass(city.byTurns());
    }

    public int on(int n) {
        if (n < 0 || n > DUSKS) {
            return BAD;
        }
        trial.copyFrom(city);
        return trial.passOn(n);
    }

    public int when(int cell) {
        if (!isCell(cell)) {
            return BAD;
        }
        trial.copyFrom(city);
        if (holdsAll(trial.shutCells(), 1 << cell)) {
            return NONE;
        }
        for (int i = 0; i < DUSKS && !trial.isOver(); i++) {
            int goesBy = trial.dusk;
            trial.pass(trial.byTurns());
            if (holdsAll(trial.shutCells(), 1 << cell)) {
                return goesBy;
            }
        }
        return NONE;
    }

    public int chalkFor(int h) {
        return isHand(h) ? bestFor(h, CHALK_OF, MOST_CHALK + 1) : BAD;
    }

    public int facingFor(int h) {
        return isHand(h) ? bestFor(h, FACING_OF, FACINGS) : BAD;
    }

    private int bestFor(int h, int what, int values) {
        int best = 0;
        int most = -1;
        for (int v = 0; v < values; v++) {
            trial.copyFrom(city);
            trial.put(h, what, v);
            int worth = trial.passOn(DUSKS);
            if (worth > most) {
                most = worth;
                best = v;
            }
        }
        return best;
    }

    private static boolean holdsAll(int set, int told) {
        return (set & told) == told;
    }

    // ---- cuts, ways

    public int cut(int cell, int what) {
        if (!isCell(cell) || what < 0 || what > 1) {
            return BAD;
        }
        if (cell == city.home) {
            return NONE;
        }
        int fewest = leastCut(cell);
        return what == 0 ? Integer.bitCount(fewest) : fewest;
    }

    /** The fewest EDGES are always all those that leave some set of CELLS round HOME, so these sets are enough to try. */
    private int leastCut(int cell) {
        int best = ALL_EDGES;
        for (int side = 0; side <= ALL_CELLS; side++) {
            if ((side >> city.home & 1) != 0 && (side >> cell & 1) == 0) {
                int leaving = City.edgesLeaving(side) & ~city.lines;
                int more = Integer.bitCount(leaving) - Integer.bitCount(best);
                if (more < 0 || more == 0 && leaving < best) {
                    best = leaving;
                }
            }
        }
        return best;
    }

    public int way(int cell, int other) {
        if (!isCell(cell) || !isCell(other)) {
            return BAD;
        }
        int rightward = City.openRightward(city.lines);
        int downward = City.openDownward(city.lines);
        int seen = 1 << cell;
        for (int steps = 0; steps < CELLS; steps++) {
            if ((seen >> other & 1) != 0) {
                return steps;
            }
            seen = City.wider(seen, rightward, downward);
        }
        return NONE;
    }

    public int bridges() {
        int shut = city.shutCells();
        int found = 0;
        for (int e = 0; e < EDGES; e++) {
            if (City.shutFrom(city.home, city.lines | 1 << e) != shut) {
                found |= 1 << e;
            }
        }
        return found;
    }

    // ---- plans

    public int best(int n) {
        if (!isPlanLength(n)) {
            return BAD;
        }
        plans.explore(city, n, 0);
        return plans.most;
    }

    public int ith(int n, int i) {
        if (!isPlanLength(n) || i < 0 || i >= MOST_PLAN) {
            return BAD;
        }
        plans.explore(city, n, 0);
        return i < plans.length ? plans.first[i] : NONE;
    }

    public int ways(int n) {
        if (!isPlanLength(n)) {
            return BAD;
        }
        plans.explore(city, n, 0);
        return plans.ways;
    }

    public int siege(int n, int set) {
        if (!isPlanLength(n) || !isSet(set, ALL_CELLS)) {
            return BAD;
        }
        plans.explore(city, n, set);
        return plans.fewest > MOST_PLAN ? NONE : plans.fewest;
    }

    public int bars(int n, int set) {
        if (!isPlanLength(n) || !isSet(set, ALL_CELLS)) {
            return BAD;
        }
        plans.explore(city, n, set);
        return leastOf(set & ~plans.everShut);
    }

    private static boolean isPlanLength(int n) {
        return n >= 0 && n <= MOST_PLAN;
    }

    private static int leastOf(int set) {
        for (int i = 0; i < CELLS; i++) {
            if ((set >> i & 1) != 0) {
                return i;
            }
        }
        return NONE;
    }

    // ---- a game, strange hands, lots

    public int game(int n) {
        if (n < 1 || n > MOST_PLAN) {
            return BAD;
        }
        return plans.playOut(city, n);
    }

    public int play(int n) {
        if (n < 1 || n > MOST_PLAN) {
            return BAD;
        }
        if (city.isOver()) {
            return NONE;
        }
        plans.playOut(city, n);
        return plans.opening;
    }

    public int report(int k, int least, int most) {
        if (k < 0 || k >= DUSKS || !isCell(least) || !isCell(most) || most < least) {
            return BAD;
        }
        int number = city.reportCount();
        if (number >= MOST_REPORTS) {
            return FULL;
        }
        city.reports = new Report(number, k, least, most, city.reports);
        return number;
    }

    public int forget() {
        int was = city.reportCount();
        city.reports = null;
        return was;
    }

    public int span(int what) {
        if (what < 0 || what > 3) {
            return BAD;
        }
        int fitting = 0;
        int least = 0;
        for (int s = STRANGE_HANDS - 1; s >= 0; s--) {
            if (wrongReports(s) == 0) {
                fitting++;
                least = s;
            }
        }
        if (what == 0) {
            return fitting;
        }
        if (fitting == 0) {
            return NONE;
        }
        return what == 1 ? strangeKind(least) : what == 2 ? strangeCell(least) : strangeFacing(least);
    }

    public int liar() {
        int alone = 0;
        for (int s = 0; s < STRANGE_HANDS; s++) {
            int wrong = wrongReports(s);
            if (wrong == 0) {
                return NONE;
            }
            if (Integer.bitCount(wrong) == 1) {
                alone |= wrong;
            }
        }
        return leastOf(alone);
    }

    /** STRANGE HANDS are numbered by KIND, then CELL, then FACING: the least number is the first that span() tells. */
    private static int strangeKind(int s) {
        return CHILD + s / (CELLS * FACINGS);
    }

    private static int strangeCell(int s) {
        return s / FACINGS % CELLS;
    }

    private static int strangeFacing(int s) {
        return s % FACINGS;
    }

    /** The REPORTS that are not so, if it was this STRANGE HAND, as a set. */
    private int wrongReports(int s) {
        int turns = City.turnsOf(strangeKind(s));
        int at = strangeCell(s);
        int facing = strangeFacing(s);
        int wrong = 0;
        for (int k = 0; k < DUSKS; k++) {
            for (Report r = city.reports; r != null; r = r.earlier) {
                if (r.after == k && (at < r.least || at > r.most)) {
                    wrong |= 1 << r.number;
                }
            }
            int ahead = City.beside(at, facing);
            if (ahead < 0) {
                facing = City.turned(facing, turns);
            } else {
                at = ahead;
            }
        }
        return wrong;
    }

    public int seed(int v) {
        int was = city.chance;
        city.chance = v;
        return was;
    }

    public int lot() {
        return city.isOver() ? STATE : city.passByLot();
    }

    public int times(int n, int v) {
        if (n < 1 || n > MOST_TIMES || v < 0 || v > MOST_WORTH) {
            return BAD;
        }
        int chance = city.chance;
        int enough = 0;
        for (int i = 0; i < n; i++) {
            trial.copyFrom(city);
            trial.chance = chance;
            if (trial.passOnByLot() >= v) {
                enough++;
            }
            chance = trial.chance;
        }
        return enough;
    }

    // ---- rows

    public int prove(int n) {
        if (!isPlanLength(n)) {
            return BAD;
        }
        plans.explore(city, n, 0);
        rowCount = plans.length;
        trial.copyFrom(city);
        for (int k = 0; k < rowCount && k < rows.length; k++) {
            int act = plans.first[k];
            rows[k][0] = act;
            rows[k][1] = trial.pass(act - 1);
            rows[k][2] = trial.shutCells();
        }
        return rowCount;
    }

    public int row(int k, int what) {
        return isInRow(k, what) ? rows[k][what] : NO_ROW;
    }

    public int alterRow(int k, int what, int v) {
        if (!isInRow(k, what)) {
            return NO_ROW;
        }
        int was = rows[k][what];
        rows[k][what] = v;
        return was;
    }

    private boolean isInRow(int k, int what) {
        return k >= 0 && k < rowCount && k < rows.length && what >= 0 && what < ROW_LENGTH;
    }

    public int judge() {
        trial.copyFrom(city);
        for (int k = 0; k < rowCount && k < rows.length; k++) {
            if (!isRight(k)) {
                return k + 1;
            }
        }
        return 0;
    }

    private boolean isRight(int k) {
        int act = rows[k][0];
        if (trial.isOver() || !isAct(act)) {
            return false;
        }
        int worth = trial.pass(act - 1);
        return rows[k][1] == worth && rows[k][2] == trial.shutCells();
    }

    // ---- the host

    public int sheet(int sheet, int sort, int n) {
        if (!isSheet(sheet) || sort < MISSING || sort >= SORTS || sort != MISSING && n > MOST_ITEMS) {
            return BAD;
        }
        if (sort != MISSING && n < 0) {
            return BELOW_NONE;
        }
        sorts[sheet] = sort;
        sizes[sheet] = sort == MISSING ? 0 : n;
        for (int i = 0; i < sizes[sheet]; i++) {
            items[sheet][i] = 0;
        }
        return 1;
    }

    public int write(int sheet, int i, int v) {
        if (!isSheet(sheet)) {
            return BAD;
        }
        if (sorts[sheet] == MISSING) {
            return NOTHING;
        }
        if (!isItem(sheet, i)) {
            return OUTSIDE;
        }
        items[sheet][i] = narrowed(sorts[sheet], v);
        return 1;
    }

    /** Ints and longs need nothing: only an int is ever written, and of longs only the lowest 32 bits are asked. */
    private static int narrowed(int sort, int v) {
        switch (sort) {
            case BYTES: return (byte) v;
            case SHORTS: return (short) v;
            case BOOLEANS: return v != 0 ? 1 : 0;
            default: return v;
        }
    }

    public int item(int sheet, int sort, int i) {
        if (!isSheet(sheet) || sort < 0 || sort >= SORTS) {
            return BAD;
        }
        int refused = refusedAs(sheet, sort);
        if (refused != 0) {
            return refused;
        }
        return isItem(sheet, i) ? items[sheet][i] : OUTSIDE;
    }

    public int goAll(int sheet, int i, int n) {
        if (!isSheet(sheet) || n < 0 || n > MOST_ACTS) {
            return BAD;
        }
        int refused = refusedAs(sheet, BYTES);
        if (refused != 0) {
            return refused;
        }
        int worth = 0;
        for (int k = 0; k < n; k++) {
            if (!isItem(sheet, i + k)) {
                return OUTSIDE;
            }
            int act = items[sheet][i + k];
            if (isAct(act) && !city.isOver()) {
                worth += city.pass(act - 1);
            }
        }
        return worth;
    }

    public int wouldBe(int sheet, int i, int n) {
        if (!isSheet(sheet) || n < 0 || n > MOST_ACTS) {
            return BAD;
        }
        int refused = refusedAs(sheet, BYTES);
        if (refused != 0) {
            return refused;
        }
        trial.copyFrom(city);
        int worth = 0;
        for (int k = 0; k < n; k++) {
            if (!isItem(sheet, i + k)) {
                return OUTSIDE;
            }
            int act = items[sheet][i + k];
            if (!isAct(act) || trial.isOver()) {
                return STATE;
            }
            worth += trial.pass(act - 1);
        }
        return worth;
    }

    private static boolean isSheet(int sheet) {
        return sheet >= 0 && sheet < SHEETS;
    }

    private boolean isItem(int sheet, int i) {
        return i >= 0 && i < sizes[sheet] && i < MOST_ITEMS;
    }

    /** Nothing can be taken for any sort, so a missing row is refused only where an item is asked of it. */
    private int refusedAs(int sheet, int sort) {
        if (sorts[sheet] == MISSING) {
            return NOTHING;
        }
        return sorts[sheet] == sort ? 0 : ANOTHER;
    }

    public int shelf(int shelf, int what, int n) {
        if (!isShelf(shelf)) {
            return BAD;
        }
        switch (what) {
            case A_HAND: return isHand(n) ? lay(shelf, A_HAND, n, 0) : BAD;
            case A_ROW: return isSheet(n) ? layRow(shelf, n) : BAD;
            case EMPTY: return lay(shelf, EMPTY, 0, 0);
            default: return BAD;
        }
    }

    private int layRow(int shelf, int sheet) {
        return sorts[sheet] == MISSING ? lay(shelf, EMPTY, 0, 0) : lay(shelf, A_ROW, sorts[sheet], sizes[sheet]);
    }

    private int lay(int shelf, int holds, int thing, int size) {
        shelfHolds[shelf] = holds;
        shelfThing[shelf] = thing;
        shelfSize[shelf] = size;
        return 1;
    }

    public int taken(int shelf, int as) {
        boolean asHand = as >= 0 && as <= DOG;
        boolean asRow = as >= AS_ROW && as < AS_ROW + SORTS;
        if (!isShelf(shelf) || !asHand && !asRow) {
            return BAD;
        }
        if (shelfHolds[shelf] == A_ROW) {
            return asRow && shelfThing[shelf] == as - AS_ROW ? shelfSize[shelf] : ANOTHER;
        }
        int h = handOn(shelf);
        if (h < 0) {
            return NOTHING;
        }
        return asHand && City.isUnder(city.get(h, KIND_OF), as) ? h : ANOTHER;
    }

    public int act(int shelf, int act, int x) {
        latest = null;
        if (!isShelf(shelf) || act < 0 || act > 3) {
            return 0;
        }
        int h = handOn(shelf);
        if (h < 0) {
            return 0;
        }
        int kind = city.get(h, KIND_OF);
        latest = kind >= 0 && kind < things.length ? things[kind] : null;
        if (latest == null) {
            return 0;
        }
        latest.standFor(h, city.get(h, CHALK_OF));
        int answer;
        switch (act) {
            case 0: answer = latest.chalks(x); break;
            case 1: answer = latest.shouts(x); break;
            case 2: answer = latest.parts(x); break;
            default: answer = latest.wins(x); break;
        }
        return latest.parted ? PARTED_BY_NONE : answer;
    }

    public int trace(int i) {
        if (i < 0 || i >= traceLength() || i >= MOST_BODIES || latest == null) {
            return NONE;
        }
        return latest.bodies[i];
    }

    public int many(int what) {
        switch (what) {
            case 0: return city.count;
            case 1: return city.rules == null ? 0 : city.rules.count;
            case 2: return Integer.bitCount(city.shutCells());
            case 3: return city.reportCount();
            case 4: return rowCount;
            case 5: return reader.fed;
            case 6: return traceLength();
            default: return BAD;
        }
    }

    private static boolean isShelf(int shelf) {
        return shelf >= 0 && shelf < SHELVES;
    }

    /** The number of the HAND that a SHELF holds; below 0 where it holds none, or one that is not there now. */
    private int handOn(int shelf) {
        boolean holds = shelfHolds[shelf] == A_HAND && isHand(shelfThing[shelf]);
        return holds ? shelfThing[shelf] : -1;
    }

    private int traceLength() {
        return latest == null ? 0 : latest.begun;
    }

    // ---- kept

    public int keep() {
        kept.copyFrom(city);
        isKept = true;
        return 1;
    }

    public int again() {
        if (!isKept) {
            return NONE;
        }
        city.copyFrom(kept);
        return city.count;
    }

    /** All that DUSKS work on and that keep() keeps. RULES and REPORTS never change once made, so copies share them. */
    private static final class City {
        /** Of HAND h at 4h: KIND, AT, FACING, CHALK. */
        private final int[] hands = new int[MOST_HANDS * TOLD_OF_A_HAND];
        private int count;
        private int home;
        private int lines;
        private int dry;
        private int rain;
        private int end = 12;
        private int dusk;
        private int score;
        /** The document's z. */
        private int chance = 1;
        private Rules rules;
        private Report reports;
        /** What the HAND that is told knows: only of use while its WILL is asked. */
        private final int[] facts = new int[FACTS];

        private void copyFrom(City other) {
            System.arraycopy(other.hands, 0, hands, 0, MOST_HANDS * TOLD_OF_A_HAND);
            count = other.count;
            home = other.home;
            lines = other.lines;
            dry = other.dry;
            rain = other.rain;
            end = other.end;
            dusk = other.dusk;
            score = other.score;
            chance = other.chance;
            rules = other.rules;
            reports = other.reports;
        }

        private int add(int kind, int at, int facing, int chalk) {
            int h = count;
            count++;
            put(h, KIND_OF, kind);
            put(h, AT_OF, at);
            put(h, FACING_OF, facing);
            put(h, CHALK_OF, chalk);
            return h;
        }

        private int get(int h, int what) {
            int i = h * TOLD_OF_A_HAND + what;
            return i >= 0 && i < hands.length ? hands[i] : 0;
        }

        private int put(int h, int what, int v) {
            int i = h * TOLD_OF_A_HAND + what;
            if (i < 0 || i >= hands.length) {
                return 0;
            }
            int was = hands[i];
            hands[i] = v;
            return was;
        }

        private int reportCount() {
            return reports == null ? 0 : reports.number + 1;
        }

        private boolean isOver() {
            return dusk >= end;
        }

        private int byTurns() {
            return count == 0 ? -1 : dusk % count;
        }

        /** A DUSK goes by: what it is WORTH. A HAND below 0 is none. */
        private int pass(int told) {
            walkAll();
            return Integer.bitCount(settle(told));
        }

        /** THE REST, n DUSKS of it at most: what they are WORTH. */
        private int passOn(int n) {
            int worth = 0;
            for (int i = 0; i < n && !isOver(); i++) {
                worth += pass(byTurns());
            }
            return worth;
        }

        private int passByLot() {
            chance = chance * 1103515245 + 12345;
            int acts = count + 1;
            return pass(acts > 0 ? (chance >>> 16) % acts - 1 : -1);
        }

        private int passOnByLot() {
            int worth = 0;
            for (int i = 0; i < DUSKS && !isOver(); i++) {
                worth += passByLot();
            }
            return worth;
        }

        /** A DUSK's first part, which is the same whichever HAND is told. */
        private void walkAll() {
            for (int h = 0; h < count; h++) {
                int kind = get(h, KIND_OF);
                int at = get(h, AT_OF);
                int facing = get(h, FACING_OF);
                int ahead = beside(at, facing);
                if (ahead >= 0 && (kind == DOG || (lines >> edgeAhead(at, facing) & 1) == 0)) {
                    put(h, AT_OF, ahead);
                } else {
                    put(h, FACING_OF, turned(facing, turnsOf(kind)));
                }
            }
        }

        /** A DUSK's other parts: the CELLS that are SHUT behind it. */
        private int settle(int told) {
            if (told >= 0 && told < count) {
                obey(told, willOf(told));
            }
            if ((rain >> dusk & 1) != 0) {
                lines &= dry;
            }
            int shut = shutCells();
            score += Integer.bitCount(shut);
            dusk++;
            return shut;
        }

        private void obey(int h, int will) {
            if (will == REST) {
                return;
            }
            int kind = get(h, KIND_OF);
            int edges = edgesAt(get(h, AT_OF), strokesOf(kind, get(h, FACING_OF)));
            if (will == RUB || rubs(kind)) {
                lines &= ~edges;
                return;
            }
            int chalk = get(h, CHALK_OF);
            if (chalk >= costsOf(kind)) {
                put(h, CHALK_OF, chalk - costsOf(kind));
                lines |= edges;
            }
        }

        private int willOf(int h) {
            if (rules == null) {
                return DRAW;
            }
            learnFacts(h);
            int kind = get(h, KIND_OF);
            for (int r = 0; r < rules.count && r < MOST_RULES; r++) {
                if (isUnder(kind, rules.kinds[r]) && holds(r)) {
                    return rules.doings[r];
                }
            }
            return DRAW;
        }

        private void learnFacts(int h) {
            facts[0] = dusk;
            facts[1] = get(h, AT_OF);
            facts[2] = get(h, FACING_OF);
            facts[3] = get(h, CHALK_OF);
            facts[4] = h;
        }

        /** Truths stand as bits of one int, the latest lowest; without a condition the first, true, stays alone. */
        private boolean holds(int r) {
            int truths = 1;
            for (int i = rules.beginOf(r); i < rules.ends[r] && i < rules.code.length; i++) {
                int code = rules.code[i];
                switch (code) {
                    case Rules.AND: truths = truths >>> 1 & (truths | ~1); break;
                    case Rules.OR: truths = truths >>> 1 | truths & 1; break;
                    case Rules.NOT: truths ^= 1; break;
                    default: truths = truths << 1 | Rules.truthOf(code, valueOf(code), valueOf(code >> Rules.VALUE_BITS));
                }
            }
            return (truths & 1) != 0;
        }

        /** What the lowest bits of a comparison tell as a VALUE. */
        private int valueOf(int code) {
            int value = code & Rules.VALUE_MASK;
            int fact = value - Rules.FACTS_FROM;
            return fact >= 0 && fact < facts.length ? facts[fact] : value;
        }

        private int shutCells() {
            return shutFrom(home, lines);
        }

        private static int shutFrom(int home, int lines) {
            int rightward = openRightward(lines);
            int downward = openDownward(lines);
            int seen = 1 << home;
            for (int step = 0; step < CELLS; step++) {
                int more = wider(seen, rightward, downward);
                if (more == seen) {
                    break;
                }
                seen = more;
            }
            return ALL_CELLS & ~seen;
        }

        /** The CELLS from which one can go on to the next one in the row. */
        private static int openRightward(int lines) {
            int open = ~lines;
            return open & 7 | (open & 7 << 3) << 1 | (open & 7 << 6) << 2;
        }

        /** The CELLS from which one can go down. */
        private static int openDownward(int lines) {
            return ~lines >> 9 & 255;
        }

        /** These CELLS and all that are one step from them. */
        private static int wider(int cells, int rightward, int downward) {
            return cells
                | (cells & rightward) << 1 | cells >> 1 & rightward
                | (cells & downward) << 4 | cells >> 4 & downward;
        }

        /** The EDGES between one of these CELLS and one that is not of them. */
        private static int edgesLeaving(int cells) {
            int across = cells ^ cells >> 1;
            int down = (cells ^ cells >> 4) & 255;
            return across & 7 | across >> 1 & 7 << 3 | across >> 2 & 7 << 6 | down << 9;
        }

        /** The CELL that is next where one is FACING, or below 0. */
        private static int beside(int cell, int facing) {
            switch (facing) {
                case 0: return (cell & 3) < 3 ? cell + 1 : -1;
                case 1: return cell < 8 ? cell + 4 : -1;
                case 2: return (cell & 3) > 0 ? cell - 1 : -1;
                default: return cell - 4;
            }
        }

        /** Only where a CELL is beside. */
        private static int edgeAhead(int cell, int facing) {
            switch (facing) {
                case 0: return cell - (cell >> 2);
                case 1: return 9 + cell;
                case 2: return cell - 1 - (cell >> 2);
                default: return 5 + cell;
            }
        }

        private static int edgesAt(int cell, int strokes) {
            int edges = 0;
            for (int facing = 0; facing < FACINGS; facing++) {
                if ((strokes >> facing & 1) != 0 && beside(cell, facing) >= 0) {
                    edges |= 1 << edgeAhead(cell, facing);
                }
            }
            return edges;
        }

        private static int turned(int facing, int by) {
            return facing + by & 3;
        }

        private static int strokesOf(int kind, int facing) {
            int strokes;
            switch (kind) {
                case CHILD: strokes = 1 | 4; break;
                case GENERAL: strokes = 1 | 2 | 8; break;
                case MOTHER: strokes = 2 | 8; break;
                case DOG: strokes = 1 | 2 | 4 | 8; break;
                default: strokes = 1; break;
            }
            return (strokes << facing | strokes >> FACINGS - facing) & 15;
        }

        private static int costsOf(int kind) {
            switch (kind) {
                case CHILD: return 2;
                case GENERAL: return 3;
                case MOTHER: return 2;
                case RUBBER: case DOG: return 0;
                default: return 1;
            }
        }

        private static int turnsOf(int kind) {
            switch (kind) {
                case CHILD: return 2;
                case MOTHER: return 3;
                case DOG: return 2;
                default: return 1;
            }
        }

        private static boolean rubs(int kind) {
            return isUnder(kind, RUBBER);
        }

        /** Whether a KIND is this one or under it. */
        private static boolean isUnder(int kind, int as) {
            return as == 0 || kind == as || kind == MOTHER && as == GENERAL || kind == DOG && as == RUBBER;
        }
    }

    /** A REPORT, and all that came earlier. */
    private static final class Report {
        private final int number;
        private final int after;
        private final int least;
        private final int most;
        private final Report earlier;

        private Report(int number, int after, int least, int most, Report earlier) {
            this.number = number;
            this.after = after;
            this.least = least;
            this.most = most;
            this.earlier = earlier;
        }
    }

    /** THE RULES, each condition with its signs behind what they join, so that it can be worked out in one go. */
    private static final class Rules {
        private static final int AND = -1, OR = -2, NOT = -3;
        /** Values from here on are the FACTS, in the order that the document names them. */
        private static final int FACTS_FROM = 10000;
        private static final int VALUE_BITS = 14, VALUE_MASK = (1 << VALUE_BITS) - 1;

        private final int[] kinds = new int[MOST_RULES];
        private final int[] doings = new int[MOST_RULES];
        private final int[] ends = new int[MOST_RULES];
        private final int[] code;
        private int count;
        private int size;

        private Rules(int most) {
            code = new int[Math.max(most, 0)];
        }

        private void emit(int value) {
            if (size < code.length) {
                code[size] = value;
                size++;
            }
        }

        private static int comparison(int left, int sign, int right) {
            return left | right << VALUE_BITS | sign << 2 * VALUE_BITS;
        }

        /** 1 or 0: whether a comparison is so of two numbers. */
        private static int truthOf(int comparison, int left, int right) {
            switch (comparison >> 2 * VALUE_BITS) {
                case 0: return left < right ? 1 : 0;
                case 1: return left == right ? 1 : 0;
                default: return left > right ? 1 : 0;
            }
        }

        private void close(int kind, int doing) {
            if (count < MOST_RULES) {
                kinds[count] = kind;
                doings[count] = doing;
                ends[count] = size;
                count++;
            }
        }

        private int beginOf(int r) {
            return r > 0 && r <= MOST_RULES ? ends[r - 1] : 0;
        }
    }

    /** THE TAPE, and who reads it by the TEXT's grammar, one token ahead: where that says no, the token is the FAULT. */
    private static final class Reader {
        /** Tokens 0 to 17 are these names, in this order. */
        private static final String NAMES =
            "hand child general mother rubber dog draw rest rub if or and not dusk at facing chalk number ";
        private static final int FIRST_DOING = 6, LAST_DOING = 8, IF = 9, OR = 10, AND = 11, NOT = 12;
        private static final int FIRST_FACT = 13, LAST_FACT = 17;
        private static final int LESS = 20, SAME = 21, MORE = 22, OPEN = 23, CLOSE = 24, SEMICOLON = 25;
        private static final int END = 26, OTHER = 27;
        /** Tokens from here on are NUMBERS. */
        private static final int NUMBERS = 100;
        private static final int MOST_OPEN = 3, MOST_DIGITS = 4;

        private final byte[] tape = new byte[MOST_TAPE];
        private int fed;
        private final int[] tokens = new int[MOST_TAPE + 1];
        private final int[] starts = new int[MOST_TAPE + 1];
        private int place;
        private int ahead;
        private int token;

        private void take(byte told) {
            if (fed < MOST_TAPE) {
                tape[fed] = told;
                fed++;
            }
        }

        /** Uses THE TAPE up: all its tokens, the END last. */
        private void split() {
            place = 0;
            int count = 0;
            for (int i = 0; i < MOST_TAPE && place < fed; i++) {
                if (tape[place] == ' ') {
                    place++;
                } else {
                    starts[count] = place;
                    tokens[count] = tokenHere();
                    count++;
                }
            }
            starts[count] = fed;
            tokens[count] = END;
            fed = 0;
            ahead = 0;
            token = tokens[0];
        }

        private int tokenHere() {
            int c = tape[place];
            if (isLetter(c)) {
                return nameHere();
            }
            if (isDigit(c)) {
                return numberHere();
            }
            place++;
            return signFor(c);
        }

        private int nameHere() {
            int from = place;
            while (place < fed && isLetter(tape[place])) {
                place++;
            }
            return nameFrom(from, place);
        }

        private int numberHere() {
            int from = place;
            int number = 0;
            while (place < fed && isDigit(tape[place])) {
                number = number * 10 + tape[place] - '0';
                place++;
            }
            return place - from > MOST_DIGITS ? OTHER : NUMBERS + number;
        }

        /** Which of NAMES stands from a place to another one. */
        private int nameFrom(int from, int to) {
            int name = 0;
            int at = from;
            boolean same = true;
            for (int i = 0; i < NAMES.length(); i++) {
                char c = NAMES.charAt(i);
                if (c != ' ') {
                    same = same && at < to && tape[at] == c;
                    at++;
                } else if (same && at == to) {
                    return name;
                } else {
                    name++;
                    at = from;
                    same = true;
                }
            }
            return OTHER;
        }

        private static boolean isLetter(int c) {
            return c >= 'a' && c <= 'z';
        }

        private static boolean isDigit(int c) {
            return c >= '0' && c <= '9';
        }

        private static int signFor(int c) {
            switch (c) {
                case '<': return LESS;
                case '=': return SAME;
                case '>': return MORE;
                case '(': return OPEN;
                case ')': return CLOSE;
                case ';': return SEMICOLON;
                default: return OTHER;
            }
        }

        private int fault() {
            return starts[ahead];
        }

        /** Behind the END there is nothing: it stays ahead. */
        private void goOn() {
            if (token != END && ahead < MOST_TAPE) {
                ahead++;
                token = tokens[ahead];
            }
        }

        private boolean readsAll(Rules rules) {
            for (int i = 0; token != END && i <= MOST_RULES; i++) {
                if (i == MOST_RULES || !readsRule(rules)) {
                    return false;
                }
            }
            return true;
        }

        private boolean readsRule(Rules rules) {
            int kind = token;
            if (kind > DOG) {
                return false;
            }
            goOn();
            if (token == IF) {
                goOn();
                if (!readsCondition(rules, 0)) {
                    return false;
                }
            }
            if (token < FIRST_DOING || token > LAST_DOING) {
                return false;
            }
            int doing = token - FIRST_DOING;
            goOn();
            if (token != SEMICOLON) {
                return false;
            }
            goOn();
            rules.close(kind, doing);
            return true;
        }

        private boolean readsCondition(Rules rules, int open) {
            if (!readsEach(rules, open)) {
                return false;
            }
            for (int i = 0; token == OR && i < MOST_TAPE; i++) {
                goOn();
                if (!readsEach(rules, open)) {
                    return false;
                }
                rules.emit(Rules.OR);
            }
            return true;
        }

        private boolean readsEach(Rules rules, int open) {
            if (!readsOne(rules, open)) {
                return false;
            }
            for (int i = 0; token == AND && i < MOST_TAPE; i++) {
                goOn();
                if (!readsOne(rules, open)) {
                    return false;
                }
                rules.emit(Rules.AND);
            }
            return true;
        }

        private boolean readsOne(Rules rules, int open) {
            boolean not = false;
            for (int i = 0; token == NOT && i < MOST_TAPE; i++) {
                not = !not;
                goOn();
            }
            boolean reads = token == OPEN ? readsWithin(rules, open) : readsComparison(rules);
            if (reads && not) {
                rules.emit(Rules.NOT);
            }
            return reads;
        }

        private boolean readsWithin(Rules rules, int open) {
            if (open >= MOST_OPEN) {
                return false;
            }
            goOn();
            if (!readsCondition(rules, open + 1) || token != CLOSE) {
                return false;
            }
            goOn();
            return true;
        }

        private boolean readsComparison(Rules rules) {
            int left = valueAhead();
            if (left < 0) {
                return false;
            }
            goOn();
            if (token < LESS || token > MORE) {
                return false;
            }
            int sign = token - LESS;
            goOn();
            int right = valueAhead();
            if (right < 0) {
                return false;
            }
            goOn();
            rules.emit(Rules.comparison(left, sign, right));
            return true;
        }

        /** What the token tells as a VALUE, or below 0 if it is none. */
        private int valueAhead() {
            if (token >= NUMBERS) {
                return token - NUMBERS;
            }
            return token >= FIRST_FACT && token <= LAST_FACT ? Rules.FACTS_FROM + token - FIRST_FACT : -1;
        }
    }

    /** All PLANS of a length, and the GAME; a city for each DUSK of them is made once and used again. */
    private static final class Plans {
        private final City[] levels = new City[MOST_PLAN + 1];
        private final int[] acts = new int[MOST_PLAN];
        private final int[] first = new int[MOST_PLAN];
        private int length;
        private int most;
        private int ways;
        private int besieged;
        private int fewest;
        private int everShut;
        private int opening;

        private Plans() {
            for (int i = 0; i < levels.length; i++) {
                levels[i] = new City();
            }
        }

        private void begin(City from, int n) {
            length = Math.max(0, Math.min(Math.min(n, MOST_PLAN), from.end - from.dusk));
            levels[0].copyFrom(from);
        }

        private void explore(City from, int n, int set) {
            begin(from, n);
            most = -1;
            ways = 0;
            besieged = set;
            fewest = MOST_PLAN + 1;
            everShut = 0;
            branch(0, 0, 0, from.shutCells());
        }

        /** All ACTS at a level, the least first, so that the first PLAN of most WORTH is the FIRST. */
        private void branch(int level, int worth, int told, int shut) {
            if (level >= length || level >= MOST_PLAN) {
                weigh(worth, told, shut);
                return;
            }
            City here = levels[level];
            City next = levels[level + 1];
            here.walkAll();
            for (int act = 0; act <= here.count; act++) {
                next.copyFrom(here);
                int shutThen = next.settle(act - 1);
                acts[level] = act;
                branch(level + 1, worth + Integer.bitCount(shutThen), act == 0 ? told : told + 1, shutThen);
            }
        }

        private void weigh(int worth, int told, int shut) {
            everShut |= shut;
            if ((shut & besieged) == besieged && told < fewest) {
                fewest = told;
            }
            if (worth > most) {
                most = worth;
                ways = 0;
                System.arraycopy(acts, 0, first, 0, MOST_PLAN);
            }
            if (worth == most) {
                ways++;
            }
        }

        private int playOut(City from, int n) {
            begin(from, n);
            opening = 0;
            return valueAt(0);
        }

        /** The first one of the two is in turn at even levels. */
        private int valueAt(int level) {
            if (level >= length || level >= MOST_PLAN) {
                return 0;
            }
            City here = levels[level];
            City next = levels[level + 1];
            boolean wantsMost = level % 2 == 0;
            int value = 0;
            here.walkAll();
            for (int act = 0; act <= here.count; act++) {
                next.copyFrom(here);
                int worth = Integer.bitCount(next.settle(act - 1)) + valueAt(level + 1);
                if (act == 0 || (wantsMost ? worth > value : worth < value)) {
                    value = worth;
                    opening = level == 0 ? act : opening;
                }
            }
            return value;
        }
    }

    /** A HAND held as a thing; one of each KIND is made once, and stands for one HAND after another. */
    private abstract static class Thing {
        private final int[] bodies = new int[MOST_BODIES];
        private int begun;
        private boolean parted;
        int number;
        int chalk;

        private void standFor(int handNumber, int handChalk) {
            begun = 0;
            parted = false;
            number = handNumber;
            chalk = handChalk;
        }

        /** Once it was parted by 0 no more bodies run: nothing but that is answered. */
        final boolean begins(int body) {
            if (parted) {
                return false;
            }
            if (begun < MOST_BODIES) {
                bodies[begun] = body;
                begun++;
            }
            return true;
        }

        int chalks(int x) {
            return begins(10) ? x ^ number + 5 : 0;
        }

        int shouts(int x) {
            return begins(11) ? chalks(x) - chalk : 0;
        }

        int parts(int x) {
            if (!begins(12)) {
                return 0;
            }
            int by = chalk - number;
            if (by == 0) {
                parted = true;
                return 0;
            }
            return x % by;
        }

        int wins(int x) {
            return begins(13) ? shouts(x) * 2 + parts(x) : 0;
        }
    }

    private static final class Child extends Thing {
        int chalks(int x) {
            return begins(20) ? super.chalks(x) * 5 : 0;
        }
    }

    private static class General extends Thing {
        int shouts(int x) {
            return begins(30) ? super.shouts(x) ^ x : 0;
        }
    }

    private static final class Mother extends General {
        int chalks(int x) {
            return begins(50) ? super.chalks(x + number) : 0;
        }

        int wins(int x) {
            return begins(51) ? super.wins(x) - shouts(chalk) : 0;
        }
    }

    private static class Rubber extends Thing {
        int parts(int x) {
            return begins(40) ? super.parts(x) - number : 0;
        }
    }

    private static final class Dog extends Rubber {
        int shouts(int x) {
            return begins(60) ? super.shouts(x) * 3 : 0;
        }

        int parts(int x) {
            return begins(61) ? super.parts(x) ^ chalks(number) : 0;
        }
    }
}
