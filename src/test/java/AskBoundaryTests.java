import java.util.ArrayList;
import java.util.List;

/** What is asked of a city, a game, strange hands and lots: section 3 of the document, promises 13 to 33. */
final class AskBoundaryTests extends Sentences {
    static void all() {
        theRest();
        cutsAndWays();
        plans();
        games();
        strangeHands();
        lots();
        restCalls();
        cutCalls();
        planCalls();
        gameCalls();
        reportCalls();
        lotCalls();
    }

    /** As besieged, and HAND 1 in HOME, which shuts it off by one draw in DUSK 1, and has CHALK for one. */
    private static ChalkWars twoWays() {
        ChalkWars x = besieged();
        x.hand(2, 0, 2, 3);
        return x;
    }

    /** A general in HOME whom DUSK 0 finds at rest; its draw of DUSK 1 shuts all off. */
    private static ChalkWars late() {
        ChalkWars x = with(2, 0, 2, 9);
        rulesOf(x, "hand if dusk=0 rest;");
        return x;
    }

    /** HAND 0 shuts 3 in DUSK 0, HAND 1 shuts 8 in it. */
    private static ChalkWars twoCorners() {
        ChalkWars x = with(2, 3, 0, 3);
        x.hand(2, 8, 2, 3);
        return x;
    }

    /** A mother that walks the upper row's length and draws below it, for four DUSKS. */
    private static ChalkWars fenced() {
        ChalkWars x = with(3, 3, 3, 9);
        x.set(0, 4);
        return x;
    }

    /** HOME is shut off, and a dog on it rubs that when told. */
    private static ChalkWars dogHome() {
        ChalkWars x = with(5, 0, 2, 0);
        x.set(2, 513);
        return x;
    }

    // ---- section 3

    private static void theRest() {
        says("THE REST: all DUSKS yet, HANDS being told by turns:"
            + " in a DUSK the one whose number is the rest of it by how many there are", x -> {
            for (int count = 1; count <= 6; count++) {
                ChalkWars y = new ChalkWars();
                y.set(0, 16);
                for (int h = 0; h < count; h++) y.hand(1, 5, 0, 9);
                for (int dusk = 0; dusk < 16; dusk++) {
                    y.dusk();
                    int told = dusk % count;
                    for (int h = 0; h < count; h++) due("chalk of " + h + " of " + count, y.handOf(h, 3), h == told ? 7 : 9);
                    y.change(told, 3, 9);
                }
            }
            ChalkWars more = with(1, 5, 0, 9);
            more.dusk();
            more.hand(1, 5, 0, 9);
            more.dusk();
            due("a hand that came later is counted then", more.handOf(1, 3), 7);
            x.set(2, 513);
            x.set(0, 16);
            x.dusk();
            due("all dusks yet", x.on(16), 165);
        });
        says("(none, if there are none).", x -> {
            x.set(2, 513);
            due("without hands", x.on(12), 132);
            due("a dusk", x.dusk(), 11);
            rulesOf(x, "hand rub;");
            due("rules or not", x.on(12), 121);
        });
    }

    private static void cutsAndWays() {
        says("CUT of a CELL: the fewest EDGES (no LINES yet) which as LINES, too, would make it SHUT;", x -> {
            x.set(1, 5);
            due("a corner", x.cut(11, 0), 2);
            due("in a row's end", x.cut(7, 0), 3);
            due("next to HOME", x.cut(6, 0), 3);
            x.set(2, 1 << 8);
            due("one is a line already", x.cut(11, 1), 1 << 16);
            x.set(2, 1 << 8 | 1 << 16);
            due("shut already", x.cut(11, 0), 0);
            due("by none", x.cut(11, 1), 0);
            x.set(2, ALL_EDGES);
            for (int cell = 0; cell < 12; cell++) due("all lines", x.cut(cell, 1), cell == 5 ? NONE : 0);
            x.set(2, ALL_EDGES ^ 1 << 4);
            due("one edge left", x.cut(6, 1), 1 << 4);
        });
        says("of several sets the least.", x -> {
            for (int cell = 1; cell < 12; cell++) due("round HOME is the least", x.cut(cell, 1), 513);
            x.set(1, 5);
            due("a column left of HOME, not round 4", x.cut(4, 1), 1 | 1 << 3 | 1 << 6);
            due("round 11", x.cut(11, 1), 1 << 8 | 1 << 16);
            due("round 3", x.cut(3, 1), 1 << 2 | 1 << 12);
            due("round 8", x.cut(8, 1), 1 << 6 | 1 << 13);
            x.set(2, 1 << 1);
            due("a line of no use round 8", x.cut(8, 1), 1 << 6 | 1 << 13);
            due("of one more use", x.cut(6, 1), 1 << 4 | 1 << 7);
        });
        says("WAY: the fewest steps from one CELL to another one by EDGES that are no LINES.", x -> {
            for (int a = 0; a < 12; a++) for (int b = 0; b < 12; b++) {
                due("way " + a + " " + b, x.way(a, b), Math.abs(a / 4 - b / 4) + Math.abs(a % 4 - b % 4));
            }
            x.set(2, 1);
            due("round a line", x.way(0, 1), 3);
            x.set(2, 1 << 9 | 1 << 10 | 1 << 11 | 1 << 14 | 1 << 15 | 1 << 16);
            due("the longest", x.way(0, 11), 11);
            x.set(2, ALL_EDGES);
            for (int cell = 0; cell < 12; cell++) due("to itself", x.way(cell, cell), 0);
            for (int cell = 1; cell < 12; cell++) due("none", x.way(0, cell), NONE);
            x.set(2, 513);
            due("from HOME off", x.way(0, 1), NONE);
            due("without HOME", x.way(1, 4), 2);
        });
        says("BRIDGES: EDGES (no LINES yet) each of which alone, as a LINE, too, would make a CELL SHUT that isn't, as a set.", x -> {
            due("none", x.bridges(), 0);
            x.set(2, 1);
            due("HOME's other one", x.bridges(), 1 << 9);
            x.set(2, 1 << 8);
            due("a corner's other one", x.bridges(), 1 << 16);
            x.set(2, 1 << 9 | 1 << 10 | 1 << 11 | 1 << 14 | 1 << 15 | 1 << 16);
            due("all that are left", x.bridges(), 511 | 1 << 12 | 1 << 13);
            x.set(2, ALL_EDGES);
            due("no edges left", x.bridges(), 0);
            x.set(2, 513 | 1 << 1);
            due("what only parts cells that are shut", x.bridges(), 0);
            x.set(1, 1);
            due("from the other side", x.bridges(), 1 << 10);
        });
    }

    private static void firstDue(String what, ChalkWars x, int n, int... acts) {
        for (int i = 0; i < 4; i++) due(what + ", act " + i, x.ith(n, i), i < acts.length ? acts[i] : NONE);
    }

    private static void plans() {
        says("A PLAN of n: n DUSKS (fewer, if it is OVER), ahead of each an ACT:"
            + " 0 none is told, or 1 more than the number of the HAND that is.", x -> {
            int[] ways = {1, 7, 49, 343, 2401};
            for (int i = 0; i < 6; i++) x.hand(4, i, 0, 0);
            for (int n = 0; n <= 4; n++) due("all plans of " + n, x.ways(n), ways[n]);
            for (int left = 3; left >= 0; left--) {
                if (left > 0) x.set(0, left);
                else x.dusk();
                for (int n = 0; n <= 4; n++) due("plans of " + n + " where " + left + " are left", x.ways(n), ways[Math.min(n, left)]);
            }
            for (int h = 0; h < 6; h++) {
                ChalkWars y = new ChalkWars();
                for (int i = 0; i < h; i++) y.hand(4, 5, 0, 0);
                y.hand(2, 0, 3, 3);
                firstDue("hand " + h, y, 1, h + 1);
            }
        });
        says("Its WORTH: of these DUSKS together.", x -> {
            x.set(2, 513);
            x.dusk();
            x.dusk();
            int[] worth = {0, 11, 22, 33, 44};
            for (int n = 0; n <= 4; n++) due("worth of " + n, x.best(n), worth[n]);
            x.set(0, 3);
            due("of one that is left", x.best(4), 11);
        });
        says("BEST: those with most WORTH;", x -> {
            x.hand(2, 0, 3, 3);
            due("draw at once", x.best(1), 11);
            due("one way", x.ways(1), 1);
            due("then as one likes", x.ways(2), 2);
            due("both worth as much", x.best(2), 22);
            due("a dog does nothing", dogHome().best(1), 11);
            firstDue("a dog does nothing", dogHome(), 1, 0);
        });
        says("the FIRST of these is that with the lesser ACT where they are unlike first.", x -> {
            x.hand(2, 0, 3, 3);
            x.hand(2, 0, 3, 3);
            due("two that do as well", x.ways(1), 2);
            firstDue("the lesser", x, 1, 1);
            due("two by three", x.ways(2), 6);
            firstDue("and none then", x, 2, 1, 0);
            due("by HAND 1 alone, by HAND 0, by both", twoWays().ways(2), 3);
            firstDue("0 and 2 is ahead of 1 and 1", twoWays(), 2, 0, 2);
            firstDue("0 and 1 is ahead of 1 and 1", late(), 2, 0, 1);
        });
        says("SIEGE by n, a set of CELLS: the fewest ACTS that aren't 0 in a PLAN of n behind which each of them is SHUT.", x -> {
            due("by one of two", twoWays().siege(2, 4094), 1);
            due("by two", besieged().siege(2, 4094), 2);
            due("by four", fenced().siege(4, 4080), 4);
            due("each of none", besieged().siege(0, 0), 0);
            due("HOME", besieged().siege(4, 1), NONE);
            due("both corners", twoCorners().siege(1, 1 << 3 | 1 << 8), NONE);
            due("one corner", twoCorners().siege(1, 1 << 8), 1);
            x.set(2, 513);
            due("now", x.siege(0, 4094), 0);
            x.set(4, 2);
            due("behind one", x.siege(1, 4094), 0);
            due("behind its second it is open", x.siege(2, 2), NONE);
            ChalkWars home = dogHome();
            due("by no act", home.siege(4, 2), 0);
        });
        says("BAR: the least of them that is so behind no PLAN of n.", x -> {
            due("each behind another one", twoCorners().bars(1, 1 << 3 | 1 << 8), NONE);
            due("the least", twoCorners().bars(1, 1 << 3 | 1 << 8 | 1 << 9 | 1 << 11), 9);
            due("the last cell", twoCorners().bars(1, 1 << 11 | 1 << 3), 11);
            due("HOME", besieged().bars(4, ALL_CELLS), 0);
            due("none of none", besieged().bars(0, 0), NONE);
            due("behind none as behind none", besieged().bars(0, 2), 1);
            x.set(2, 513);
            x.set(4, 2);
            due("behind one", x.bars(1, 4094), NONE);
            due("behind the rain", x.bars(2, 4094), 1);
        });
    }

    private static void games() {
        says("GAME of n: two in turn, ahead of n DUSKS (till it is OVER) each an ACT (also 0);", x -> {
            due("the other one plays 0", late().game(2), 0);
            due("the first one draws, whichever DUSK it is", besiegedAt(1).game(1), 11);
            due("the first one plays 0", dogHome().game(1), 11);
            due("and the other one rubs", dogHome().game(2), 11);
            x.set(2, 513);
            for (int n = 1; n <= 4; n++) due("no hands", x.game(n), 11 * n);
            x.set(0, 2);
            due("two are left", x.game(4), 22);
            x.dusk();
            due("one is left", x.game(4), 11);
            x.dusk();
            due("none is left", x.game(4), 0);
        });
        says("the first one wants as much WORTH as can be, the other one as little.", x -> {
            int[] alone = {0, 0, 11, 22};
            for (int n = 1; n <= 4; n++) due("besieged " + n, besieged().game(n), alone[n - 1]);
            ChalkWars y = besiegedAt(1);
            y.hand(5, 5, 3, 0);
            due("11 and then a dog rubs", y.game(2), 11);
            due("who plans alone has more", y.best(2), 22);
        });
        says("VALUE: that, if both play as well as they can.", x -> {
            due("the first one must begin", late().play(2), 0);
            due("draws at once", with(2, 0, 3, 3).game(2), 22);
            due("by ACT 1", with(2, 0, 3, 3).play(2), 1);
            due("a dog is let be, then rubs, then it stays open", dogHome().game(3), 11);
        });
    }

    private static ChalkWars besiegedAt(int dusk) {
        ChalkWars x = besieged();
        for (int i = 0; i < dusk; i++) x.dusk();
        return x;
    }

    /** Where a strange hand is behind k DUSKS, row and column told apart. */
    private static int behind(int kind, int cell, int facing, int k) {
        int[] turns = {2, 1, 3, 1, 2}, down = {0, 1, 0, -1}, right = {1, 0, -1, 0};
        int row = cell / 4, column = cell % 4;
        for (int i = 0; i < k; i++) {
            int r = row + down[facing], c = column + right[facing];
            if (r < 0 || r > 2 || c < 0 || c > 3) facing = (facing + turns[kind - 1]) % 4;
            else {
                row = r;
                column = c;
            }
        }
        return 4 * row + column;
    }

    private static List<int[]> fitting(int[]... reports) {
        List<int[]> all = new ArrayList<>();
        for (int kind = 1; kind <= 5; kind++) for (int cell = 0; cell < 12; cell++) for (int facing = 0; facing < 4; facing++) {
            boolean fits = true;
            for (int[] r : reports) {
                int at = behind(kind, cell, facing, r[0]);
                fits &= at >= r[1] && at <= r[2];
            }
            if (fits) all.add(new int[] {kind, cell, facing});
        }
        return all;
    }

    private static void spanDue(int[]... reports) {
        ChalkWars x = new ChalkWars();
        for (int[] r : reports) x.report(r[0], r[1], r[2]);
        List<int[]> all = fitting(reports);
        due("how many fit", x.span(0), all.size());
        for (int what = 1; what <= 3; what++) due("span " + what, x.span(what), all.isEmpty() ? NONE : all.get(0)[what - 1]);
    }

    private static void strangeHands() {
        says("A REPORT (6 at most): a strange hand that walked from DUSK 0 on, without LINES,", x -> {
            x.set(2, ALL_EDGES);
            x.set(0, 1);
            x.dusk();
            for (int i = 0; i < 6; i++) due("report " + i, x.report(i, 5 + (i > 0 ? 1 : 0), 11), i);
            due("a seventh", x.report(0, 0, 11), FULL);
            due("one of the six", x.many(3), 6);
            x.forget();
            x.report(0, 5, 5);
            x.report(1, 6, 6);
            due("from DUSK 0 on, without lines", x.span(0), 5);
        });
        says("was behind k DUSKS (0 to 15) AT a CELL from LEAST to MOST (0 to 11).", x -> {
            for (int k = 0; k < 16; k++) for (int cell = 0; cell < 12; cell++) spanDue(args(k, cell, cell));
            for (int k = 0; k < 16; k += 5) {
                spanDue(args(k, 0, 11));
                spanDue(args(k, 4, 7));
                spanDue(args(k, 0, 10));
                spanDue(args(k, 1, 11));
            }
            due("k 16", x.report(16, 0, 11), BAD);
            due("cell 12", x.report(0, 0, 12), BAD);
            due("behind none it is where it was at first", x.report(0, 11, 11), 0);
            due("five kinds by four", x.span(0), 20);
        });
        says("A STRANGE HAND is a KIND (1 to 5), a CELL and FACING at first.", x -> {
            due("all", x.span(0), 240);
            for (int cell = 0; cell < 12; cell++) {
                x.forget();
                x.report(0, cell, cell);
                due("of a cell", x.span(0), 20);
                due("the first kind", x.span(1), 1);
                due("the cell", x.span(2), cell);
                due("the first facing", x.span(3), 0);
            }
            int[] to = {6, 9, 4, 1};
            for (int facing = 0; facing < 4; facing++) {
                x.forget();
                x.report(0, 5, 5);
                x.report(1, to[facing], to[facing]);
                due("of a facing", x.span(0), 5);
                due("the facing", x.span(3), facing);
            }
            int[][] onlyThree = {{0, 0, 0}, {1, 0, 0}, {2, 0, 0}, {3, 4, 4}};
            spanDue(onlyThree);
            int[][] up = {{0, 1, 1}, {1, 1, 1}, {2, 0, 0}};
            spanDue(up);
        });
        says("Those that FIT: by which each REPORT is so.", x -> {
            spanDue(args(0, 5, 5), args(1, 6, 6), args(2, 7, 7), args(3, 7, 7), args(4, 11, 11));
            spanDue(args(0, 5, 5), args(1, 6, 6), args(2, 7, 7), args(3, 7, 7), args(4, 6, 6), args(15, 0, 11));
            spanDue(args(0, 0, 5), args(0, 5, 11), args(7, 3, 9));
            spanDue(args(15, 0, 0), args(0, 0, 0));
            spanDue(args(0, 5, 5), args(0, 6, 6));
            due("no reports: all", x.span(0), 240);
        });
        says("LIAR: if none FITS, the least REPORT but for which some would.", x -> {
            x.report(0, 5, 5);
            x.report(0, 6, 6);
            due("either: the least", x.liar(), 0);
            x.report(0, 6, 6);
            due("the first", x.liar(), 0);
            x.forget();
            for (int i = 0; i < 5; i++) x.report(0, 6, 6);
            due("none lies", x.liar(), NONE);
            x.report(0, 5, 5);
            due("the sixth", x.liar(), 5);
            x.forget();
            x.report(0, 5, 5);
            x.report(0, 6, 6);
            x.report(0, 7, 7);
            due("more than one would have to go", x.liar(), NONE);
            x.forget();
            due("no reports: all fit", x.liar(), NONE);
        });
    }

    private static final int TIMES = 1103515245, MORE = 12345;

    private static void lots() {
        says("LOT: a DUSK by chance: z (an int; 1 at first) becomes z * 1103515245 + 12345;", x -> {
            due("at first", chance(x), 1);
            x.lot();
            due("then", chance(x), TIMES + MORE);
            int z = TIMES + MORE;
            for (int i = 0; i < 11; i++) {
                z = z * TIMES + MORE;
                x.lot();
                due("goes on", chance(x), z);
            }
            for (int seed : new int[] {0, -1, Integer.MIN_VALUE, Integer.MAX_VALUE}) {
                x.anew();
                x.seed(seed);
                x.lot();
                due("from " + seed, chance(x), seed * TIMES + MORE);
            }
        });
        says("the ACT in it is what z >>> 16 leaves by how many HANDS there are and 1.", x -> {
            for (int count = 1; count <= 6; count++) {
                ChalkWars y = new ChalkWars();
                for (int h = 0; h < count; h++) y.hand(1, 5, 0, 9);
                for (int seed = -6; seed <= 6; seed++) {
                    int z = seed * 7654321 * TIMES + MORE;
                    int act = (int) (((long) z & 0xffffffffL) / 65536 % (count + 1));
                    y.anew();
                    for (int h = 0; h < count; h++) y.change(h, 3, 9);
                    y.seed(seed * 7654321);
                    y.lot();
                    for (int h = 0; h < count; h++) due("chalk of " + h + " of " + count, y.handOf(h, 3), h == act - 1 ? 7 : 9);
                }
            }
            x.set(2, 513);
            x.seed(-1);
            due("without hands", x.lot(), 11);
        });
    }

    // ---- promises 13 to 16

    private static void restCalls() {
        promise(13, "What n (0 to 16) DUSKS of THE REST (fewer, if it is OVER) are WORTH.", x -> {
            x.set(2, 513);
            for (int n = 0; n <= 16; n++) due("on " + n, x.on(n), 11 * Math.min(n, 12));
            x.set(0, 16);
            due("all sixteen", x.on(16), 176);
            x.set(0, 1);
            due("one", x.on(16), 11);
            x.dusk();
            for (int n = 0; n <= 16; n++) due("over, on " + n, x.on(n), 0);
            int[] on = {0, 0, 11, 22};
            for (int n = 0; n < 4; n++) due("besieged, on " + n, besieged().on(n), on[n]);
        });
        promise(13, "BAD.", x -> {
            range("on", x, (y, a) -> y.on(a[0]), args(1), 0, 0, 16, BAD);
            x.set(0, 1);
            x.dusk();
            due("also when over", x.on(17), BAD);
        });
        promise(14, "The first DUSK of THE REST behind which a CELL is SHUT.", x -> {
            for (int cell = 1; cell < 12; cell++) due("besieged", besieged().when(cell), 1);
            due("from DUSK 1 on it is DUSK 1 still", besiegedAt(1).when(7), 1);
            due("at once", with(2, 0, 3, 3).when(11), 0);
            ChalkWars rain = besieged();
            rain.set(4, 4);
            due("though it is open later", rain.when(3), 1);
            rain.set(4, 2);
            due("not in the rain, but in the one behind it", rain.when(3), 2);
            ChalkWars last = with(1, 0, 0, 9);
            last.set(2, 1 << 1 | 1 << 9 | 1 << 10);
            rulesOf(last, "hand if dusk<15 rest;");
            last.set(0, 15);
            due("not by the fifteenth", last.when(1), NONE);
            last.set(0, 16);
            due("by the sixteenth", last.when(1), 15);
        });
        promise(14, "BAD;", x -> range("when", x, (y, a) -> y.when(a[0]), args(1), 0, 0, 11, BAD));
        promise(14, "NONE (also if it is so now).", x -> {
            due("never", x.when(5), NONE);
            due("HOME", besieged().when(0), NONE);
            x.set(2, 513);
            due("so now", x.when(5), NONE);
            ChalkWars again = with(2, 0, 3, 9);
            again.set(2, 513);
            again.set(4, 1);
            due("so now, though open behind DUSK 0", again.when(5), NONE);
            ChalkWars over = besieged();
            over.set(0, 1);
            due("END is too soon", over.when(5), NONE);
            over.dusk();
            due("over", over.when(5), NONE);
            over.set(0, 2);
            due("END is just there", over.when(5), 1);
        });
        promise(15, "CHALK with which a HAND makes THE REST WORTH most;", x -> {
            due("four draws of 2", fenced().chalkFor(0), 8);
            ChalkWars most = fenced();
            rulesOf(most, "mother if dusk=0 and chalk<9 rest;");
            due("9", most.chalkFor(0), 9);
            ChalkWars none = with(2, 0, 3, 9);
            rulesOf(none, "hand if chalk>2 rest;");
            due("0, if more is no better", none.chalkFor(0), 0);
            due("3, just as much as it costs", with(2, 0, 3, 0).chalkFor(0), 3);
            ChalkWars second = with(4, 11, 3, 5);
            second.hand(2, 0, 2, 0);
            due("of HAND 1, in DUSK 1", second.chalkFor(1), 3);
            second.change(1, 3, 3);
            due("of HAND 0, that needs none", second.chalkFor(0), 0);
            ChalkWars over = with(2, 0, 3, 9);
            over.set(0, 1);
            over.dusk();
            due("over", over.chalkFor(0), 0);
        });
        promise(15, "of several the least.", x -> {
            due("6 to 9 do as well", besieged().chalkFor(0), 6);
            x.hand(4, 5, 0, 9);
            due("all do as well", x.chalkFor(0), 0);
            due("its CHALK stays", x.handOf(0, 3), 9);
        });
        promise(15, "BAD.", x -> {
            due("no hands", x.chalkFor(0), BAD);
            x.hand(1, 1, 1, 1);
            x.hand(1, 1, 1, 1);
            range("chalkFor", x, (y, a) -> y.chalkFor(a[0]), args(0), 0, 0, 1, BAD);
        });
        promise(16, "FACING likewise.", x -> {
            due("3: turned to 0 it draws all round HOME", with(2, 0, 0, 3).facingFor(0), 3);
            due("whatever it faces now", with(2, 0, 3, 3).facingFor(0), 3);
            due("2 by the wall", besieged().facingFor(0), 2);
            x.hand(4, 5, 3, 9);
            due("all do as well: the least", x.facingFor(0), 0);
            due("its FACING stays", x.handOf(0, 2), 3);
            ChalkWars over = with(2, 0, 3, 9);
            over.set(0, 1);
            over.dusk();
            due("over", over.facingFor(0), 0);
        });
        promise(16, "BAD.", x -> {
            due("no hands", x.facingFor(0), BAD);
            x.hand(1, 1, 1, 1);
            x.hand(1, 1, 1, 1);
            range("facingFor", x, (y, a) -> y.facingFor(a[0]), args(0), 0, 0, 1, BAD);
        });
    }

    // ---- promises 17 to 19

    private static void cutCalls() {
        promise(17, "CUT of a CELL: what 0 how many, 1 the set.", x -> {
            for (int cell = 1; cell < 12; cell++) due("how many", x.cut(cell, 0), Integer.bitCount(x.cut(cell, 1)));
            x.set(2, 1);
            due("how many with a line there", x.cut(11, 0), 1);
            due("the set without it", x.cut(11, 1), 512);
        });
        promise(17, "BAD;", x -> {
            range("cut", x, (y, a) -> y.cut(a[0], a[1]), args(5, 0), 0, 0, 11, BAD);
            range("cut", x, (y, a) -> y.cut(a[0], a[1]), args(5, 0), 1, 0, 1, BAD);
            due("of HOME, another what", x.cut(0, 2), BAD);
        });
        promise(17, "NONE: it is HOME.", x -> {
            for (int home = 0; home < 12; home++) {
                x.set(1, home);
                due("how many", x.cut(home, 0), NONE);
                due("the set", x.cut(home, 1), NONE);
                due("not of another one", x.cut((home + 1) % 12, 0) > 0 ? 1 : 0, 1);
            }
        });
        promise(18, "WAY.", x -> {
            due("the farthest", x.way(0, 11), 5);
            due("back", x.way(11, 0), 5);
            due("to itself", x.way(0, 0), 0);
            x.set(1, 5);
            due("HOME is nothing to it", x.way(8, 3), 5);
        });
        promise(18, "BAD;", x -> {
            range("way", x, (y, a) -> y.way(a[0], a[1]), args(5, 5), 0, 0, 11, BAD);
            range("way", x, (y, a) -> y.way(a[0], a[1]), args(5, 5), 1, 0, 11, BAD);
        });
        promise(18, "NONE: there is none.", x -> {
            x.set(2, 1 << 8 | 1 << 16);
            due("from a corner", x.way(11, 10), NONE);
            due("into it", x.way(10, 11), NONE);
            due("within it", x.way(11, 11), 0);
        });
        promise(19, "BRIDGES.", x -> {
            x.set(2, 1 << 16);
            due("one", x.bridges(), 1 << 8);
            due("asking draws nothing", x.state(6), 1 << 16);
            x.set(2, 1 << 12 | 1 << 16);
            due("the two rows' ends are free", x.bridges(), 1 << 2 | 1 << 5 | 1 << 8);
        });
    }

    // ---- promises 20 to 24

    private static void planCalls() {
        promise(20, "WORTH of the BEST PLANS of n (0 to 4).", x -> {
            int[] best = {0, 0, 11, 22, 33};
            for (int n = 0; n <= 4; n++) due("best " + n, besieged().best(n), best[n]);
            ChalkWars over = besieged();
            over.set(0, 2);
            due("two left", over.best(4), 11);
            over.dusk();
            over.dusk();
            due("over", over.best(4), 0);
        });
        promise(20, "BAD.", x -> range("best", x, (y, a) -> y.best(a[0]), args(1), 0, 0, 4, BAD));
        promise(21, "The i-th (0 to 3) ACT of the FIRST of them.", x -> {
            firstDue("of none", besieged(), 0);
            firstDue("of one", besieged(), 1, 0);
            firstDue("of two", besieged(), 2, 1, 1);
            firstDue("of three", besieged(), 3, 1, 1, 0);
            firstDue("of four", besieged(), 4, 1, 1, 0, 0);
            firstDue("all four", fenced(), 4, 1, 1, 1, 1);
        });
        promise(21, "BAD;", x -> {
            range("ith", x, (y, a) -> y.ith(a[0], a[1]), args(4, 0), 0, 0, 4, BAD);
            range("ith", x, (y, a) -> y.ith(a[0], a[1]), args(4, 0), 1, 0, 3, BAD);
            due("a bad one ahead of none", x.ith(0, 4), BAD);
        });
        promise(21, "NONE: it has not so many.", x -> {
            for (int n = 0; n <= 4; n++) for (int i = 0; i < 4; i++) due("ith " + n + " " + i, x.ith(n, i), i < n ? 0 : NONE);
            x.set(0, 2);
            for (int i = 0; i < 4; i++) due("two left", x.ith(4, i), i < 2 ? 0 : NONE);
            x.dusk();
            x.dusk();
            due("over", x.ith(4, 0), NONE);
        });
        promise(22, "How many of them there are.", x -> {
            int[] ways = {1, 2, 1, 2, 4};
            for (int n = 0; n <= 4; n++) due("ways " + n, besieged().ways(n), ways[n]);
            for (int n = 0; n <= 4; n++) due("without hands", x.ways(n), 1);
            x.set(0, 1);
            x.dusk();
            due("over", x.ways(4), 1);
        });
        promise(22, "BAD.", x -> range("ways", x, (y, a) -> y.ways(a[0]), args(1), 0, 0, 4, BAD));
        promise(23, "SIEGE by n (0 to 4), a set of CELLS.", x -> {
            int[] siege = {NONE, NONE, 2, 1, 1};
            for (int n = 0; n <= 4; n++) due("siege by " + n, besieged().siege(n, 4094), siege[n]);
            for (int n = 0; n <= 4; n++) due("of none by " + n, besieged().siege(n, 0), 0);
        });
        promise(23, "BAD;", x -> {
            range("siege", x, (y, a) -> y.siege(a[0], a[1]), args(1, 0), 0, 0, 4, BAD);
            range("siege", x, (y, a) -> y.siege(a[0], a[1]), args(1, 0), 1, 0, ALL_CELLS, BAD);
        });
        promise(23, "NONE.", x -> {
            due("nobody shuts it", x.siege(4, 2), NONE);
            due("one of them is HOME", besieged().siege(4, 3), NONE);
            ChalkWars over = besieged();
            over.set(0, 1);
            due("one left", over.siege(4, 2), NONE);
            over.set(0, 2);
            due("two left", over.siege(4, 2), 2);
        });
        promise(24, "BAR likewise.", x -> {
            int[] bars = {1, 1, NONE, NONE, NONE};
            for (int n = 0; n <= 4; n++) due("bar by " + n, besieged().bars(n, 4094), bars[n]);
            due("the least of those told alone", besieged().bars(1, 1 << 6 | 1 << 11), 6);
            due("the last", besieged().bars(1, 1 << 11), 11);
        });
        promise(24, "BAD;", x -> {
            range("bars", x, (y, a) -> y.bars(a[0], a[1]), args(1, 0), 0, 0, 4, BAD);
            range("bars", x, (y, a) -> y.bars(a[0], a[1]), args(1, 0), 1, 0, ALL_CELLS, BAD);
        });
        promise(24, "NONE: each is so behind some.", x -> {
            due("none is told", x.bars(4, 0), NONE);
            due("by unlike plans", twoCorners().bars(1, 1 << 3 | 1 << 8), NONE);
            x.set(2, 513);
            due("so now", x.bars(0, 4094), NONE);
        });
    }

    // ---- promises 25, 26

    private static void gameCalls() {
        promise(25, "VALUE of a GAME of n (1 to 4).", x -> {
            due("one: the first alone", with(2, 0, 3, 3).game(1), 11);
            for (int n = 1; n <= 4; n++) {
                due("late: the other one rests in its only DUSK, " + n, late().game(n), 0);
                due("a dog rubs in the second, " + n, dogHome().game(n), 11);
                due("as all lines of play tell, " + n, twins().game(n), 11 * n);
                due("with a dog, as all lines of play tell, " + n, dogAndGeneral().game(n), gameBy(n));
            }
            x.set(0, 1);
            x.dusk();
            due("over", x.game(4), 0);
        });
        promise(25, "BAD.", x -> {
            range("game", x, (y, a) -> y.game(a[0]), args(1), 0, 1, 4, BAD);
            x.set(0, 1);
            x.dusk();
            due("over, 0", x.game(0), BAD);
            due("over, 5", x.game(5), BAD);
        });
        promise(26, "The least ACT by which who begins comes to it.", x -> {
            due("all do as well", x.play(4), 0);
            due("of two that do as well", twins().play(1), 1);
            due("the second alone", second().play(1), 2);
            due("none is best", dogHome().play(1), 0);
            due("by what comes then, too", besieged().play(3), 0);
        });
        promise(26, "BAD;", x -> {
            range("play", x, (y, a) -> y.play(a[0]), args(1), 0, 1, 4, BAD);
            x.set(0, 1);
            x.dusk();
            due("bad ahead of over, 0", x.play(0), BAD);
            due("bad ahead of over, 5", x.play(5), BAD);
        });
        promise(26, "NONE: it is OVER.", x -> {
            x.hand(2, 0, 3, 3);
            x.set(0, 1);
            due("one left", x.play(4), 1);
            x.dusk();
            for (int n = 1; n <= 4; n++) due("over", x.play(n), NONE);
        });
    }

    private static ChalkWars dogAndGeneral() {
        ChalkWars x = with(5, 1, 1, 0);
        x.hand(2, 0, 3, 9);
        return x;
    }

    /** Every line of play, each on an object of its own. */
    private static int gameBy(int n, int... acts) {
        int value = 0;
        for (int act = 0; act <= 2; act++) {
            int[] more = java.util.Arrays.copyOf(acts, acts.length + 1);
            more[acts.length] = act;
            ChalkWars x = dogAndGeneral();
            int worth = 0;
            for (int a : more) worth = passWith(x, a);
            if (more.length < n) worth += gameBy(n, more);
            boolean better = acts.length % 2 == 0 ? worth > value : worth < value;
            if (act == 0 || better) value = worth;
        }
        return value;
    }

    private static ChalkWars twins() {
        ChalkWars x = with(2, 0, 3, 3);
        x.hand(2, 0, 3, 3);
        return x;
    }

    private static ChalkWars second() {
        ChalkWars x = with(4, 5, 3, 3);
        x.hand(2, 0, 3, 3);
        return x;
    }

    // ---- promises 27 to 30

    private static void reportCalls() {
        Call report = (x, a) -> x.report(a[0], a[1], a[2]);
        promise(27, "A REPORT: its number.", x -> {
            for (int i = 0; i < 6; i++) due("number", x.report(3 * i, i, 11), i);
            due("six", x.many(3), 6);
        });
        promise(27, "BAD: also MOST below LEAST;", x -> {
            range("report", x, report, args(0, 0, 11), 0, 0, 15, BAD);
            range("report", x, report, args(0, 0, 11), 1, 0, 11, BAD);
            x.forget();
            range("report", x, report, args(0, 0, 11), 2, 0, 11, BAD);
            x.forget();
            due("4 below 5", x.report(0, 5, 4), BAD);
            due("0 below 11", x.report(0, 11, 0), BAD);
            due("5 to 5", x.report(0, 5, 5), 0);
            due("one came", x.many(3), 1);
        });
        promise(27, "FULL.", x -> {
            for (int i = 0; i < 6; i++) x.report(0, 0, 11);
            due("a seventh", x.report(0, 0, 11), FULL);
            due("a bad seventh", x.report(0, 5, 4), BAD);
            due("it does not come", x.many(3), 6);
        });
        promise(28, "There are no REPORTS: how many there were.", x -> {
            due("none", x.forget(), 0);
            for (int i = 0; i < 6; i++) x.report(0, 5, 5);
            due("six", x.forget(), 6);
            due("gone", x.many(3), 0);
            due("all fit", x.span(0), 240);
            due("numbers from 0 again", x.report(0, 5, 5), 0);
        });
        promise(29, "STRANGE HANDS that FIT: what = 0 how many; of that with the least KIND, of these the least CELL,"
            + " of these the least FACING: 1 KIND, 2 CELL, 3 FACING.", x -> {
            spanDue();
            spanDue(args(1, 0, 0));
            spanDue(args(0, 0, 0), args(1, 1, 1));
            spanDue(args(0, 11, 11), args(1, 10, 10));
            spanDue(args(0, 3, 3), args(2, 7, 7), args(3, 11, 11));
            spanDue(args(0, 3, 3), args(1, 3, 3), args(2, 3, 3), args(3, 2, 2));
            spanDue(args(15, 11, 11), args(14, 11, 11));
            x.report(0, 8, 8);
            x.report(1, 8, 8);
            x.report(2, 8, 8);
            due("a general, a mother, a rubber", x.span(0), 3);
            due("the general", x.span(1), 2);
            due("from 8", x.span(2), 8);
            due("facing down", x.span(3), 1);
        });
        promise(29, "BAD;", x -> {
            range("span", x, (y, a) -> y.span(a[0]), args(0), 0, 0, 3, BAD);
            x.report(0, 5, 5);
            x.report(0, 6, 6);
            due("bad ahead of none", x.span(4), BAD);
        });
        promise(29, "NONE (of 1 to 3): there are none.", x -> {
            x.report(0, 5, 5);
            x.report(0, 6, 6);
            due("how many", x.span(0), 0);
            for (int what = 1; what <= 3; what++) due("what " + what, x.span(what), NONE);
        });
        promise(30, "LIAR.", x -> {
            x.report(0, 0, 11);
            x.report(0, 5, 5);
            x.report(1, 11, 11);
            due("one that is so of each is no liar; the next one is", x.liar(), 1);
            x.report(1, 6, 6);
            due("now the third", x.liar(), 2);
        });
        promise(30, "NONE: some FIT;", x -> {
            due("no reports", x.liar(), NONE);
            x.report(0, 5, 5);
            due("one", x.liar(), NONE);
            x.report(1, 6, 6);
            due("two that go together", x.liar(), NONE);
        });
        promise(30, "or there is no such REPORT.", x -> {
            x.report(0, 5, 5);
            x.report(0, 5, 5);
            x.report(0, 6, 6);
            x.report(0, 6, 6);
            due("two and two", x.liar(), NONE);
            x.forget();
            x.report(0, 1, 1);
            x.report(0, 2, 2);
            x.report(0, 3, 3);
            due("three", x.liar(), NONE);
        });
    }

    // ---- promises 31 to 33

    private static void lotCalls() {
        promise(31, "z becomes v: what it was.", x -> {
            due("at first", x.seed(Integer.MIN_VALUE), 1);
            due("the least", x.seed(Integer.MAX_VALUE), Integer.MIN_VALUE);
            due("the most", x.seed(-4), Integer.MAX_VALUE);
            due("below 0 is no refusal", x.seed(0), -4);
            due("0", x.seed(0), 0);
        });
        promise(32, "A DUSK by LOT: what it was WORTH.", x -> {
            x.set(2, 513);
            due("worth", x.lot(), 11);
            due("dusk", x.state(0), 1);
            due("score", x.state(2), 11);
            ChalkWars y = with(2, 0, 3, 3);
            int seed = 1;
            while ((seed * TIMES + MORE >>> 16) % 2 == 0) seed++;
            y.seed(seed);
            due("told", y.lot(), 11);
        });
        promise(32, "STATE: it is OVER.", x -> {
            x.set(0, 1);
            x.lot();
            int z = chance(x);
            due("over", x.lot(), STATE);
            due("z stays", chance(x), z);
            due("dusk stays", x.state(0), 1);
        });
        promise(33, "How many of n (1 to 40) times all DUSKS yet by LOT,", x -> {
            x.set(2, 513);
            for (int n : new int[] {1, 2, 39, 40}) due("all " + n, x.times(n, 132), n);
            x.dusk();
            due("eleven are left", x.times(40, 121), 40);
            due("no more", x.times(40, 122), 0);
            x.set(0, 16);
            due("fifteen are left", x.times(40, 165), 40);
            due("and not sixteen", x.times(40, 166), 0);
            ChalkWars all = new ChalkWars();
            all.set(2, 513);
            all.set(0, 16);
            due("sixteen are left", all.times(40, 176), 40);
            x.set(0, 1);
            due("none is left: worth 0", x.times(40, 0), 40);
            due("and not 1", x.times(40, 1), 0);
        });
        promise(33, "each from how it is now (z goes on from one to the next), are WORTH v (0 to 999) or more", x -> {
            x.set(2, 513);
            due("as much", x.times(1, 132), 1);
            due("1 less", x.times(1, 131), 1);
            due("1 more", x.times(1, 133), 0);
            due("0", x.times(3, 0), 3);
            due("999", x.times(3, 999), 0);
            ChalkWars y = with(2, 0, 3, 3);
            y.set(0, 1);
            for (int n = 1; n <= 40; n++) {
                int z = 5, drawn = 0;
                for (int i = 0; i < n; i++) {
                    z = z * TIMES + MORE;
                    drawn += (z >>> 16) % 2;
                }
                y.seed(5);
                due("drawn in " + n, y.times(n, 11), drawn);
            }
        });
        promise(33, "(all is as it was in the end, z, too).", x -> {
            x.hand(2, 0, 3, 9);
            x.hand(5, 5, 3, 9);
            x.seed(-77);
            String was = all(x);
            x.times(40, 5);
            due("all", all(x), was);
        });
        promise(33, "BAD.", x -> {
            range("times", x, (y, a) -> y.times(a[0], a[1]), args(1, 0), 0, 1, 40, BAD);
            range("times", x, (y, a) -> y.times(a[0], a[1]), args(1, 0), 1, 0, 999, BAD);
            x.set(0, 1);
            x.dusk();
            due("also when over", x.times(41, 0), BAD);
        });
    }
}
