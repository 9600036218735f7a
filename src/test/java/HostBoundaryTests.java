/** ROWS, SHEETS, SHELVES, acts, and what is kept: the rest of section 3, promises 34 to 49. */
final class HostBoundaryTests extends Sentences {
    private static final int BYTES = 0, SHORTS = 1, INTS = 2, LONGS = 3, BOOLEANS = 4;

    static void all() {
        rows();
        bodies();
        sheetsAndShelves();
        rowCalls();
        sheetCalls();
        goCalls();
        shelfCalls();
        actCalls();
        keepCalls();
    }

    private static void rowsDue(String what, ChalkWars x, int[]... rows) {
        due(what + ": rows", x.many(4), rows.length);
        for (int k = 0; k < 4; k++) for (int i = 0; i < 3; i++) {
            due(what + ": row " + k + " " + i, x.row(k, i), k < rows.length ? rows[k][i] : NO_ROW);
        }
    }

    // ---- section 3

    private static void rows() {
        says("ROWS of the FIRST of the BEST PLANS: for each DUSK (ACT, what it is WORTH, CELLS that are SHUT behind it, as a set).", x -> {
            ChalkWars y = besieged();
            y.prove(4);
            rowsDue("besieged", y, args(1, 0, 0), args(1, 11, 4094), args(0, 11, 4094), args(0, 11, 4094));
            y.set(0, 2);
            y.prove(4);
            rowsDue("two left", y, args(1, 0, 0), args(1, 11, 4094));
            x.set(2, 1 << 8 | 1 << 16);
            x.prove(1);
            rowsDue("a corner", x, args(0, 1, 1 << 11));
            x.prove(0);
            rowsDue("of none", x);
        });
        says("THE READER takes ROWS as a PLAN, from how it is now:", x -> {
            ChalkWars y = besieged();
            y.prove(3);
            due("right", y.judge(), 0);
            y.dusk();
            due("a DUSK later the first one is wrong", y.judge(), 1);
            y.prove(2);
            y.set(2, 0);
            due("other lines now: the first one's WORTH is another", y.judge(), 1);
            x.prove(4);
            x.set(2, 513);
            due("lines where none were", x.judge(), 1);
            x.set(2, 0);
            x.set(0, 3);
            due("as a PLAN of four where three are left", x.judge(), 4);
        });
        says("right is one whose ACT is one, if it isn't OVER, the others as they are then.", x -> {
            for (int i = 0; i < 6; i++) x.hand(4, 5, 0, 0);
            x.prove(1);
            for (int act = 0; act <= 6; act++) {
                x.alterRow(0, 0, act);
                due("ACT " + act, x.judge(), 0);
            }
            for (int act : new int[] {7, -1, Integer.MIN_VALUE, Integer.MAX_VALUE}) {
                x.alterRow(0, 0, act);
                due("ACT " + act, x.judge(), 1);
            }
            x.alterRow(0, 0, 0);
            x.alterRow(0, 1, 1);
            due("WORTH 1", x.judge(), 1);
            x.alterRow(0, 1, 0);
            x.alterRow(0, 2, 1);
            due("HOME shut", x.judge(), 1);
            x.alterRow(0, 2, 0);
            due("right again", x.judge(), 0);
            x.set(0, 1);
            due("one is left", x.judge(), 0);
            x.dusk();
            due("over", x.judge(), 1);
        });
    }

    /** HAND n with a CHALK, on SHELF 2. */
    private static ChalkWars held(int kind, int n, int a) {
        ChalkWars x = new ChalkWars();
        for (int i = 0; i < n; i++) x.hand(1, 0, 0, 0);
        x.hand(kind, 0, 0, a);
        x.shelf(2, 0, n);
        return x;
    }

    private static final int[] XS = {0, 1, -1, 2, 10, -7, 255, 123456789, Integer.MIN_VALUE, Integer.MAX_VALUE};

    private static void bodies() {
        says("ACTS of a thing by its KIND, with a number x (ints that wrap): 0 chalks, 1 shouts, 2 parts, 3 wins.", x -> {
            ChalkWars child = held(1, 0, 9);
            due("five times the most wraps", child.act(2, 0, Integer.MAX_VALUE), (Integer.MAX_VALUE ^ 5) * 5);
            due("the least", child.act(2, 0, Integer.MIN_VALUE), (Integer.MIN_VALUE ^ 5) * 5);
            ChalkWars general = held(2, 0, 9);
            due("below the least", general.act(2, 1, Integer.MIN_VALUE), (Integer.MIN_VALUE + 5) - 9 ^ Integer.MIN_VALUE);
            ChalkWars mother = held(3, 2, 9);
            due("above the most", mother.act(2, 0, Integer.MAX_VALUE), Integer.MIN_VALUE + 1 ^ 7);
            int[] acts = {7 ^ 5, (7 ^ 5) - 9, 7 % 9, ((7 ^ 5) - 9) * 2 + 7 % 9};
            for (int act = 0; act <= 3; act++) due("a rubber's act " + act, held(4, 0, 9).act(2, act, 7), acts[act]);
            due("act 4", general.act(2, 4, 7), 0);
        });
        says("A HAND is held as a thing of its KIND; n: its number, a: its CHALK.", x -> {
            for (int n = 0; n <= 5; n++) due("number " + n, held(4, n, 9).act(2, 0, 64), 64 + n + 5);
            for (int a = 0; a <= 9; a++) due("chalk " + a, held(4, 0, a).act(2, 1, 64), 64 + 5 - a);
            ChalkWars y = held(4, 0, 9);
            y.change(0, 3, 2);
            due("its chalk as it is then", y.act(2, 1, 64), 67);
            y.remake(0, 1);
            due("its kind as it is then", y.act(2, 0, 64), 69 * 5);
        });
        says("BODIES, each with its number: hand: 10 chalks: x ^ (n + 5). 11 shouts: chalks(x) - a.", y -> {
            for (int x : XS) for (int n = 0; n <= 5; n += 5) {
                due("chalks " + x, held(4, n, 7).act(2, 0, x), x ^ n + 5);
                due("shouts " + x, held(4, n, 7).act(2, 1, x), (x ^ n + 5) - 7);
            }
        });
        says("12 parts: what x leaves by (a - n), below 0 if x is", y -> {
            int[] by = {5, 1, -1, -5};
            int[] ns = {2, 2, 2, 5}, as = {7, 3, 1, 0};
            for (int i = 0; i < 4; i++) for (int x : XS) due("parts " + x + " by " + by[i], held(1, ns[i], as[i]).act(2, 2, x), x % by[i]);
            due("-7 by 5", held(1, 2, 7).act(2, 2, -7), -2);
            due("7 by -5", held(1, 5, 0).act(2, 2, 7), 2);
            due("the least by -1", held(1, 2, 1).act(2, 2, Integer.MIN_VALUE), 0);
        });
        says("(-15 if these are the same; that is all that act() answers then).", x -> {
            for (int kind = 1; kind <= 5; kind++) for (int n = 0; n <= 5; n += 5) {
                due("parts, kind " + kind, held(kind, n, n).act(2, 2, 9), PARTED_BY_NONE);
                due("wins, kind " + kind, held(kind, n, n).act(2, 3, 9), PARTED_BY_NONE);
                due("also 0, kind " + kind, held(kind, n, n).act(2, 2, 0), PARTED_BY_NONE);
                due("chalks all the same, kind " + kind, held(kind, n, n).act(2, 0, 9) == PARTED_BY_NONE ? 1 : 0, 0);
                due("one more chalk, kind " + kind, held(kind, n, n + 1).act(2, 2, 9) == PARTED_BY_NONE ? 1 : 0, 0);
            }
            ChalkWars y = held(2, 3, 3);
            due("parted", y.act(2, 3, 9), PARTED_BY_NONE);
            due("the next act is free of it", y.act(2, 1, 9), (9 ^ 8) - 3 ^ 9);
            y.change(3, 3, 4);
            due("and so are parts", y.act(2, 2, 9), 0);
        });
        says("13 wins: shouts(x) * 2 + parts(x).", y -> {
            for (int x : XS) due("wins " + x, held(1, 2, 7).act(2, 3, x), ((x ^ 7) * 5 - 7) * 2 + x % 5);
        });
        says("child: 20 chalks: super.chalks(x) * 5.", y -> {
            for (int x : XS) due("chalks " + x, held(1, 2, 7).act(2, 0, x), (x ^ 7) * 5);
        });
        says("general: 30 shouts: super.shouts(x) ^ x.", y -> {
            for (int x : XS) due("shouts " + x, held(2, 2, 7).act(2, 1, x), (x ^ 7) - 7 ^ x);
        });
        says("rubber: 40 parts: super.parts(x) - n.", y -> {
            for (int x : XS) due("parts " + x, held(4, 2, 7).act(2, 2, x), x % 5 - 2);
        });
        says("mother: 50 chalks: super.chalks(x + n).", y -> {
            for (int x : XS) due("chalks " + x, held(3, 2, 7).act(2, 0, x), x + 2 ^ 7);
        });
        says("51 wins: super.wins(x) - shouts(a).", y -> {
            for (int x : XS) due("wins " + x, held(3, 2, 6).act(2, 3, x), ((x + 2 ^ 7) - 6 ^ x) * 2 + x % 4 - ((8 ^ 7) - 6 ^ 6));
        });
        says("dog: 60 shouts: super.shouts(x) * 3.", y -> {
            for (int x : XS) due("shouts " + x, held(5, 2, 7).act(2, 1, x), ((x ^ 7) - 7) * 3);
        });
        says("61 parts: super.parts(x) ^ chalks(n).", y -> {
            for (int x : XS) due("parts " + x, held(5, 2, 7).act(2, 2, x), x % 5 - 2 ^ (2 ^ 7));
        });
        says("THE TRACE: numbers of the bodies that ran in the latest act(), as they began (left first);", x -> {
            int[][][] ran = {
                {{20, 10}, {11, 20, 10}, {12}, {13, 11, 20, 10, 12}},
                {{10}, {30, 11, 10}, {12}, {13, 30, 11, 10, 12}},
                {{50, 10}, {30, 11, 50, 10}, {12}, {51, 13, 30, 11, 50, 10, 12, 30, 11, 50, 10}},
                {{10}, {11, 10}, {40, 12}, {13, 11, 10, 40, 12}},
                {{10}, {60, 11, 10}, {61, 40, 12, 10}, {13, 60, 11, 10, 61, 40, 12, 10}}};
            for (int kind = 1; kind <= 5; kind++) {
                ChalkWars y = held(kind, 2, 7);
                for (int act = 3; act >= 0; act--) {
                    y.act(2, act, 5);
                    traceDue("kind " + kind + " act " + act, y, ran[kind - 1][act]);
                }
            }
            ChalkWars mother = held(3, 3, 3);
            mother.act(2, 3, 9);
            traceDue("parted: those that had begun", mother, 51, 13, 30, 11, 50, 10, 12);
            ChalkWars dog = held(5, 3, 3);
            dog.act(2, 2, 9);
            traceDue("parted at once", dog, 61, 40, 12);
        });
        says("the first 30 are kept.", x -> {
            ChalkWars y = held(3, 2, 7);
            for (int i = 0; i < 5; i++) y.act(2, 3, i);
            due("the longest, of the latest act alone", y.many(6), 11);
            due("its last one", y.trace(10), 10);
            due("no more", y.trace(11), NONE);
        });
    }

    private static void traceDue(String what, ChalkWars x, int... bodies) {
        due(what + ": how many", x.many(6), bodies.length);
        for (int i = 0; i < bodies.length; i++) due(what + ": body " + i, x.trace(i), bodies[i]);
        due(what + ": no more", x.trace(bodies.length), NONE);
    }

    private static void sheetsAndShelves() {
        says("SHEETS 0 to 3 are rows of bytes (sort 0), shorts (1), ints (2), longs (3) or booleans (4),", x -> {
            int[] v = {128, 32768, Integer.MIN_VALUE, -1, 7}, is = {-128, -32768, Integer.MIN_VALUE, -1, 1};
            for (int sheet = 0; sheet < 4; sheet++) for (int sort = 0; sort < 5; sort++) {
                due("sheet " + sheet, x.sheet(sheet, sort, 3), 1);
                due("write", x.write(sheet, 2, v[sort]), 1);
                due("item of sort " + sort, x.item(sheet, sort, 2), is[sort]);
                for (int other = 0; other < 5; other++) if (other != sort) due("as " + other, x.item(sheet, other, 2), ANOTHER);
            }
        });
        says("40 at most, or missing (at first).", x -> {
            for (int sheet = 0; sheet < 4; sheet++) {
                due("missing", x.item(sheet, BYTES, 0), NOTHING);
                due("41", x.sheet(sheet, BYTES, 41), BAD);
                due("missing still", x.item(sheet, BYTES, 0), NOTHING);
                due("40", x.sheet(sheet, BYTES, 40), 1);
                due("the last", x.item(sheet, BYTES, 39), 0);
                due("behind it", x.item(sheet, BYTES, 40), OUTSIDE);
                due("missing again", x.sheet(sheet, -1, 0), 1);
                due("is", x.item(sheet, BYTES, 0), NOTHING);
            }
        });
        says("SHELVES 0 to 3 hold a HAND (by its number; nothing, if there is no such one at the time),", x -> {
            x.keep();
            x.hand(5, 5, 0, 9);
            for (int shelf = 0; shelf < 4; shelf++) due("held", x.shelf(shelf, 0, 0), 1);
            x.again();
            for (int shelf = 0; shelf < 4; shelf++) {
                for (int as = 0; as <= 14; as += as == 5 ? 5 : 1) due("no such one", x.taken(shelf, as), NOTHING);
                due("nor an act", x.act(shelf, 0, 1), 0);
            }
            x.hand(2, 5, 0, 9);
            for (int shelf = 0; shelf < 4; shelf++) {
                due("one of its number", x.taken(shelf, 2), 0);
                due("of its kind", x.taken(shelf, 5), ANOTHER);
            }
        });
        says("a SHEET's row, or nothing (at first).", x -> {
            for (int shelf = 0; shelf < 4; shelf++) for (int as = 0; as <= 14; as += as == 5 ? 5 : 1) {
                due("at first", x.taken(shelf, as), NOTHING);
            }
            x.sheet(1, SHORTS, 40);
            x.shelf(0, 1, 1);
            due("a row", x.taken(0, 11), 40);
            x.sheet(1, LONGS, 3);
            due("the row that it was", x.taken(0, 11), 40);
            x.sheet(1, -1, 0);
            due("the row still", x.taken(0, 11), 40);
            x.sheet(1, BYTES, 0);
            x.shelf(0, 1, 1);
            due("a row of none", x.taken(0, 10), 0);
        });
    }

    // ---- promises 34 to 37

    private static void rowCalls() {
        promise(34, "ROWS of the FIRST of the BEST PLANS of n (0 to 4): how many.", x -> {
            for (int n = 4; n >= 0; n--) {
                due("prove " + n, x.prove(n), n);
                due("many " + n, x.many(4), n);
            }
            x.set(0, 3);
            due("three left", x.prove(4), 3);
            x.set(0, 1);
            x.dusk();
            due("over", x.prove(4), 0);
            due("no rows", x.row(0, 0), NO_ROW);
        });
        promise(34, "BAD.", x -> {
            x.prove(2);
            range("prove", x, (y, a) -> y.prove(a[0]), args(1), 0, 0, 4, BAD);
            x.prove(2);
            x.prove(5);
            x.prove(-1);
            due("the rows are there still", x.many(4), 2);
        });
        promise(35, "Of ROW k: what = 0 ACT, 1 WORTH, 2 those SHUT.", x -> {
            ChalkWars y = besieged();
            y.prove(4);
            int[][] rows = {{1, 0, 0}, {1, 11, 4094}, {0, 11, 4094}, {0, 11, 4094}};
            for (int k = 0; k < 4; k++) for (int what = 0; what < 3; what++) due("row " + k + " " + what, y.row(k, what), rows[k][what]);
            for (int i = 0; i < 6; i++) x.hand(4, 5, 0, 0);
            ChalkWars six = new ChalkWars();
            for (int i = 0; i < 5; i++) six.hand(4, 5, 0, 0);
            six.hand(2, 0, 3, 3);
            six.prove(1);
            due("ACT 6", six.row(0, 0), 6);
        });
        promise(35, "-9: there is none such, another what.", x -> {
            for (int what = 0; what < 3; what++) due("no rows at first", x.row(0, what), NO_ROW);
            for (int n = 1; n <= 4; n++) {
                x.prove(n);
                range("row of " + n, x, (y, a) -> y.row(a[0], a[1]), args(0, 0), 0, 0, n - 1, NO_ROW);
                range("row of " + n, x, (y, a) -> y.row(a[0], a[1]), args(0, 0), 1, 0, 2, NO_ROW);
            }
        });
        promise(36, "It becomes v: what it was.", x -> {
            x.prove(4);
            for (int k = 0; k < 4; k++) for (int what = 0; what < 3; what++) {
                due("alter", x.alterRow(k, what, Integer.MIN_VALUE), 0);
                due("again", x.alterRow(k, what, Integer.MAX_VALUE), Integer.MIN_VALUE);
                due("is", x.row(k, what), Integer.MAX_VALUE);
                due("to -9", x.alterRow(k, what, NO_ROW), Integer.MAX_VALUE);
            }
            x.prove(1);
            due("proved anew", x.row(0, 0), 0);
        });
        promise(36, "-9 likewise.", x -> {
            due("no rows at first", x.alterRow(0, 0, 5), NO_ROW);
            for (int n = 1; n <= 4; n++) {
                x.prove(n);
                range("alter of " + n, x, (y, a) -> y.alterRow(a[0], a[1], a[2]), args(0, 0, 0), 0, 0, n - 1, NO_ROW);
                range("alter of " + n, x, (y, a) -> y.alterRow(a[0], a[1], a[2]), args(0, 0, 0), 1, 0, 2, NO_ROW);
            }
            x.prove(1);
            x.alterRow(1, 0, 77);
            x.prove(2);
            due("nothing came of it", x.row(1, 0), 0);
        });
        promise(37, "THE READER takes ROWS as such: 0 all is right; else the first ROW that isn't, and 1 more.", x -> {
            due("no rows", x.judge(), 0);
            for (int n = 0; n <= 4; n++) {
                x.prove(n);
                due("all of " + n, x.judge(), 0);
            }
            for (int k = 3; k >= 0; k--) {
                x.alterRow(k, 1, 5);
                due("the first that isn't", x.judge(), k + 1);
            }
            ChalkWars y = besieged();
            y.prove(3);
            y.alterRow(2, 0, 1);
            due("another ACT may be right as well", y.judge(), 0);
            y.alterRow(0, 0, 0);
            due("its own ROW is as told, but not the next one", y.judge(), 2);
            due("judging passes no DUSK", y.state(0), 0);
        });
    }

    // ---- promises 38 to 40

    private static void sheetCalls() {
        promise(38, "A SHEET becomes a row of n of a sort, all 0, or missing (sort -1; n counts nothing then): 1.", x -> {
            for (int sort = 0; sort < 5; sort++) {
                due("40", x.sheet(0, sort, 40), 1);
                for (int i = 0; i < 40; i += 39) x.write(0, i, 1);
                due("40 anew", x.sheet(0, sort, 40), 1);
                for (int i = 0; i < 40; i++) due("all 0", x.item(0, sort, i), 0);
                due("none", x.sheet(0, sort, 0), 1);
                due("of none", x.item(0, sort, 0), OUTSIDE);
                for (int n : new int[] {0, 41, -1, Integer.MIN_VALUE, Integer.MAX_VALUE}) due("missing, n " + n, x.sheet(0, -1, n), 1);
                due("is missing", x.item(0, sort, 0), NOTHING);
            }
        });
        promise(38, "BAD: no such SHEET, sort, n above 40;", x -> {
            range("sheet", x, (y, a) -> y.sheet(a[0], a[1], a[2]), args(0, 0, 1), 0, 0, 3, BAD);
            range("sheet", x, (y, a) -> y.sheet(a[0], a[1], a[2]), args(0, 0, 1), 1, -1, 4, BAD);
            for (int n : new int[] {41, Integer.MAX_VALUE}) due("n " + n, x.sheet(0, 0, n), BAD);
            due("40", x.sheet(0, 0, 40), 1);
            due("no sheet to be missing", x.sheet(4, -1, 0), BAD);
            x.write(0, 39, 9);
            x.sheet(0, 1, 41);
            due("what was there stays", x.item(0, BYTES, 39), 9);
        });
        promise(38, "-14.", x -> {
            for (int sort = 0; sort < 5; sort++) {
                for (int n : new int[] {-1, Integer.MIN_VALUE}) due("n " + n, x.sheet(0, sort, n), BELOW_NONE);
            }
            due("it is missing still", x.item(0, BYTES, 0), NOTHING);
            due("no such sheet is first", x.sheet(4, 0, -1), BAD);
            due("no such sort is first", x.sheet(0, 5, -1), BAD);
            due("nor is -2 one", x.sheet(0, -2, -1), BAD);
        });
        promise(39, "Item i becomes v, narrowed to its sort (booleans: whether it is not 0): 1.", x -> {
            int[] told = {0, 1, -1, 127, 128, -128, -129, 255, 256, 32767, 32768, -32768, -32769, 65535, 65536,
                Integer.MIN_VALUE, Integer.MAX_VALUE};
            for (int v : told) {
                int[] is = {(byte) v, (short) v, v, v, v == 0 ? 0 : 1};
                for (int sort = 0; sort < 5; sort++) {
                    ChalkWars y = new ChalkWars();
                    y.sheet(1, sort, 3);
                    due("write " + v, y.write(1, 1, v), 1);
                    due("sort " + sort + " of " + v, y.item(1, sort, 1), is[sort]);
                    due("ahead of it", y.item(1, sort, 0), 0);
                    due("behind it", y.item(1, sort, 2), 0);
                }
            }
            x.sheet(0, BOOLEANS, 1);
            x.write(0, 0, 256);
            due("256 is not 0", x.item(0, BOOLEANS, 0), 1);
        });
        promise(39, "BAD: no such SHEET;", x -> {
            for (int s = 0; s < 4; s++) x.sheet(s, INTS, 1);
            range("write", x, (y, a) -> y.write(a[0], a[1], a[2]), args(0, 0, 1), 0, 0, 3, BAD);
        });
        promise(39, "-11;", x -> {
            due("missing", x.write(0, 0, 1), NOTHING);
            due("also outside", x.write(0, -1, 1), NOTHING);
            due("no such sheet is first", x.write(4, 0, 1), BAD);
            x.sheet(0, BYTES, 1);
            x.sheet(0, -1, 1);
            due("missing again", x.write(0, 0, 1), NOTHING);
        });
        promise(39, "-12.", x -> {
            for (int n : new int[] {1, 2, 40}) {
                x.sheet(0, INTS, n);
                range("write of " + n, x, (y, a) -> y.write(a[0], a[1], a[2]), args(0, 0, 1), 1, 0, n - 1, OUTSIDE);
            }
            x.sheet(0, INTS, 0);
            due("of none", x.write(0, 0, 1), OUTSIDE);
        });
        promise(40, "Item i, taken for a sort (0 to 4; of longs the lowest 32 bits; of booleans 1, 0).", x -> {
            x.sheet(0, LONGS, 2);
            for (int v : new int[] {0, -1, Integer.MIN_VALUE, Integer.MAX_VALUE}) {
                x.write(0, 1, v);
                due("of longs", x.item(0, LONGS, 1), v);
            }
            x.sheet(1, BOOLEANS, 2);
            x.write(1, 0, -5);
            due("1", x.item(1, BOOLEANS, 0), 1);
            due("0", x.item(1, BOOLEANS, 1), 0);
        });
        promise(40, "BAD: no such SHEET, sort;", x -> {
            for (int s = 0; s < 4; s++) x.sheet(s, INTS, 1);
            range("item", x, (y, a) -> y.item(a[0], a[1], a[2]), args(0, INTS, 0), 0, 0, 3, BAD);
            range("item", x, (y, a) -> y.item(a[0], a[1], a[2]), args(0, INTS, 0), 1, 0, 4, BAD);
            x.sheet(0, -1, 0);
            due("no such sort of a missing one", x.item(0, 5, 0), BAD);
        });
        promise(40, "-13;", x -> {
            for (int sort = 0; sort < 5; sort++) {
                x.sheet(0, sort, 1);
                for (int as = 0; as < 5; as++) due("sort " + sort + " as " + as, x.item(0, as, 0), as == sort ? 0 : ANOTHER);
                due("also outside", x.item(0, (sort + 1) % 5, 1), ANOTHER);
            }
        });
        promise(40, "-11;", x -> {
            for (int as = 0; as < 5; as++) for (int i = -1; i <= 40; i += 41) due("missing, as " + as, x.item(2, as, i), NOTHING);
        });
        promise(40, "-12.", x -> {
            for (int n : new int[] {1, 2, 40}) {
                x.sheet(0, INTS, n);
                range("item of " + n, x, (y, a) -> y.item(a[0], a[1], a[2]), args(0, INTS, 0), 2, 0, n - 1, OUTSIDE);
            }
            x.sheet(0, INTS, 0);
            due("of none", x.item(0, INTS, 0), OUTSIDE);
        });
        promise(40, "(An item may be as low as these, too.)", x -> {
            x.sheet(0, BYTES, 1);
            for (int v : new int[] {-1, -11, -12, -13, -128}) {
                x.write(0, 0, v);
                due("item", x.item(0, BYTES, 0), v);
            }
        });
    }

    // ---- promises 41, 42

    private static void goCalls() {
        promise(41, "n (0 to 20) items of a SHEET taken for bytes, from item i on, are ACTS, each followed by a DUSK", x -> {
            ChalkWars y = besieged();
            acts(y, 0, 1, 1, 0, 0);
            due("none", y.goAll(0, 0, 0), 0);
            due("no DUSK", y.state(0), 0);
            due("one", y.goAll(0, 0, 1), 0);
            due("one DUSK", y.state(0), 1);
            due("its chalk", y.handOf(0, 3), 6);
            due("from item 1 on", y.goAll(0, 1, 2), 22);
            due("three DUSKS", y.state(0), 3);
            due("score", y.state(2), 22);
            x.set(2, 513);
            x.set(0, 16);
            x.sheet(0, BYTES, 40);
            due("sixteen of twenty, the last items", x.goAll(0, 20, 20), 176);
            due("sixteen DUSKS", x.state(0), 16);
        });
        promise(41, "(what is none, or when it is OVER, is left out):", x -> {
            x.hand(2, 1, 2, 9);
            acts(x, 0, 2, -1, 127, -128, 1);
            due("no ACTS", x.goAll(0, 0, 4), 0);
            due("no DUSK", x.state(0), 0);
            due("one of them is one", x.goAll(0, 0, 5), 0);
            due("one DUSK", x.state(0), 1);
            for (int i = 0; i < 5; i++) x.hand(4, 11, 0, 0);
            acts(x, 0, 6, 7);
            due("six are ACTS, seven not", x.goAll(0, 0, 2), 0);
            due("two DUSKS", x.state(0), 2);
            x.set(0, 3);
            acts(x, 0, 0, 0, 0);
            due("one, and over", x.goAll(0, 0, 3), 0);
            due("three DUSKS", x.state(0), 3);
            due("over: nothing", x.goAll(0, 0, 3), 0);
            due("three DUSKS still", x.state(0), 3);
        });
        promise(41, "what these DUSKS were WORTH together.", x -> {
            x.set(2, 513);
            x.dusk();
            acts(x, 0, 0, 9, 0);
            due("two of three", x.goAll(0, 0, 3), 22);
            due("score", x.state(2), 33);
        });
        promise(41, "BAD: no such SHEET, n;", x -> {
            for (int s = 0; s < 4; s++) x.sheet(s, BYTES, 40);
            range("goAll", x, (y, a) -> y.goAll(a[0], a[1], a[2]), args(0, 0, 0), 0, 0, 3, BAD);
            range("goAll", x, (y, a) -> y.goAll(a[0], a[1], a[2]), args(0, 0, 0), 2, 0, 20, BAD);
            x.sheet(0, INTS, 1);
            due("no such n ahead of another sort", x.goAll(0, 0, 21), BAD);
        });
        promise(41, "-13;", x -> {
            for (int sort = 1; sort < 5; sort++) {
                x.sheet(0, sort, 1);
                for (int n = 0; n <= 2; n++) due("sort " + sort, x.goAll(0, 0, n), ANOTHER);
                due("also outside", x.goAll(0, 5, 1), ANOTHER);
            }
            due("no DUSK", x.state(0), 0);
        });
        promise(41, "-11;", x -> {
            due("missing", x.goAll(0, 0, 1), NOTHING);
            due("also outside", x.goAll(0, -1, 1), NOTHING);
        });
        promise(41, "-12: what stood ahead was done.", x -> {
            acts(x, 0, 0, 0);
            for (int i : new int[] {-1, 2, 40, Integer.MIN_VALUE, Integer.MAX_VALUE}) due("from " + i, x.goAll(0, i, 1), OUTSIDE);
            due("from -1, though 0 stands behind it", x.goAll(0, -1, 3), OUTSIDE);
            due("nothing was done", x.state(0), 0);
            due("the third is outside", x.goAll(0, 0, 3), OUTSIDE);
            due("two were done", x.state(0), 2);
            due("the second", x.goAll(0, 1, 2), OUTSIDE);
            due("one was done", x.state(0), 3);
            due("the last", x.goAll(0, 1, 1), 0);
            x.set(0, 4);
            due("over: still a place outside", x.goAll(0, 0, 3), OUTSIDE);
        });
        promise(42, "n (0 to 20) items likewise: what they would be WORTH.", x -> {
            ChalkWars y = besieged();
            acts(y, 0, 1, 1, 0, 0);
            int[] worth = {0, 0, 11, 22, 33};
            for (int n = 0; n <= 4; n++) due("of " + n, y.wouldBe(0, 0, n), worth[n]);
            due("from item 1 on", y.wouldBe(0, 1, 3), 0);
            due("no DUSK", y.state(0), 0);
            due("its chalk", y.handOf(0, 3), 9);
            x.set(2, 513);
            x.set(0, 16);
            x.sheet(0, BYTES, 40);
            due("sixteen", x.wouldBe(0, 24, 16), 176);
            for (int i = 0; i < 6; i++) x.hand(4, 11, 0, 0);
            acts(x, 0, 6);
            due("ACT 6", x.wouldBe(0, 0, 1), 11);
        });
        promise(42, "BAD: no such SHEET, n;", x -> {
            for (int s = 0; s < 4; s++) x.sheet(s, BYTES, 40);
            range("wouldBe", x, (y, a) -> y.wouldBe(a[0], a[1], a[2]), args(0, 0, 0), 0, 0, 3, BAD);
            range("wouldBe", x, (y, a) -> y.wouldBe(a[0], a[1], a[2]), args(0, 0, 0), 2, 0, 20, BAD);
            due("a missing one", x.sheet(0, -1, 0), 1);
            due("no such n is first", x.wouldBe(0, 0, -1), BAD);
        });
        promise(42, "-13;", x -> {
            for (int sort = 1; sort < 5; sort++) {
                x.sheet(0, sort, 1);
                for (int n = 0; n <= 2; n++) due("sort " + sort, x.wouldBe(0, 0, n), ANOTHER);
            }
        });
        promise(42, "-11;", x -> {
            due("missing", x.wouldBe(0, 0, 1), NOTHING);
            due("also outside", x.wouldBe(0, -1, 1), NOTHING);
        });
        promise(42, "then, by items, -12;", x -> {
            acts(x, 0, 0, 0);
            for (int i : new int[] {-1, 2, 40, Integer.MIN_VALUE, Integer.MAX_VALUE}) due("from " + i, x.wouldBe(0, i, 1), OUTSIDE);
            due("the third", x.wouldBe(0, 0, 3), OUTSIDE);
            due("two", x.wouldBe(0, 0, 2), 0);
            acts(x, 0, 0, 9);
            due("no ACT ahead of the place outside", x.wouldBe(0, 0, 3), STATE);
            x.set(0, 1);
            acts(x, 0, 0);
            due("outside, and over by then", x.wouldBe(0, 0, 2), OUTSIDE);
        });
        promise(42, "STATE: one is no ACT, or it would be OVER ahead of it.", x -> {
            x.hand(4, 11, 0, 0);
            for (int act : new int[] {2, -1, 127, -128}) {
                acts(x, 0, 0, act);
                due("ACT " + act, x.wouldBe(0, 0, 2), STATE);
                due("not asked", x.wouldBe(0, 0, 1), 0);
            }
            acts(x, 0, 1, 1, 1);
            x.set(0, 2);
            due("two left", x.wouldBe(0, 0, 2), 0);
            due("over ahead of the third", x.wouldBe(0, 0, 3), STATE);
            x.dusk();
            x.dusk();
            due("over", x.wouldBe(0, 0, 1), STATE);
            due("over, none asked", x.wouldBe(0, 0, 0), 0);
        });
    }

    // ---- promises 43, 44

    private static void shelfCalls() {
        promise(43, "A SHELF holds HAND n (what 0), the row of SHEET n (1; nothing, if missing), nothing (2): 1.", x -> {
            for (int i = 0; i < 6; i++) x.hand(1, 5, 0, i);
            for (int i = 0; i < 4; i++) if (i != 2) x.sheet(i, i, 10 * i);
            for (int shelf = 0; shelf < 4; shelf++) {
                due("the first hand", x.shelf(shelf, 0, 0), 1);
                due("is", x.taken(shelf, 0), 0);
                due("the last hand", x.shelf(shelf, 0, 5), 1);
                due("is it", x.taken(shelf, 0), 5);
                due("a row", x.shelf(shelf, 1, 3), 1);
                due("is a row", x.taken(shelf, 13), 30);
                due("a missing one", x.shelf(shelf, 1, 2), 1);
                due("is nothing", x.taken(shelf, 12), NOTHING);
                due("a row of none", x.shelf(shelf, 1, 0), 1);
                due("is no nothing", x.taken(shelf, 10), 0);
                for (int n : new int[] {0, -1, 99, Integer.MIN_VALUE, Integer.MAX_VALUE}) due("nothing, n " + n, x.shelf(shelf, 2, n), 1);
                due("is nothing at all", x.taken(shelf, 10), NOTHING);
            }
        });
        promise(43, "BAD: no such SHELF, what, thing.", x -> {
            due("no hands", x.shelf(0, 0, 0), BAD);
            for (int i = 0; i < 3; i++) x.hand(1, 5, 0, i);
            range("shelf", x, (y, a) -> y.shelf(a[0], a[1], a[2]), args(0, 0, 0), 0, 0, 3, BAD);
            range("shelf", x, (y, a) -> y.shelf(a[0], a[1], a[2]), args(0, 0, 0), 1, 0, 2, BAD);
            range("shelf, a hand", x, (y, a) -> y.shelf(a[0], a[1], a[2]), args(0, 0, 0), 2, 0, 2, BAD);
            range("shelf, a sheet", x, (y, a) -> y.shelf(a[0], a[1], a[2]), args(0, 1, 0), 2, 0, 3, BAD);
            x.shelf(0, 0, 2);
            x.shelf(0, 0, 3);
            x.shelf(0, 1, 4);
            x.shelf(0, 3, 0);
            due("what was there stays", x.taken(0, 0), 2);
        });
        promise(44, "What a SHELF holds taken for a thing of KIND as (0 to 5, or one under it): its number;", x -> {
            int[] above = {1 | 2, 1 | 4, 1 | 4 | 8, 1 | 16, 1 | 16 | 32};
            for (int kind = 1; kind <= 5; kind++) {
                x.hand(kind, 5, 0, 9);
                x.shelf(3, 0, kind - 1);
                for (int as = 0; as <= 5; as++) {
                    boolean is = (above[kind - 1] >> as & 1) != 0;
                    due("kind " + kind + " as " + as, x.taken(3, as), is ? kind - 1 : ANOTHER);
                }
            }
            x.remake(4, 2);
            due("as it is then", x.taken(3, 2), 4);
            due("no dog now", x.taken(3, 5), ANOTHER);
        });
        promise(44, "for a row of sort as - 10 (as 10 to 14): how many items.", x -> {
            for (int sort = 0; sort < 5; sort++) for (int n : new int[] {0, 1, 40}) {
                x.sheet(0, sort, n);
                x.shelf(0, 1, 0);
                for (int as = 0; as < 5; as++) due("row " + sort + " as " + as, x.taken(0, 10 + as), as == sort ? n : ANOTHER);
            }
        });
        promise(44, "BAD: no such SHELF, as;", x -> {
            x.hand(1, 5, 0, 9);
            x.shelf(0, 0, 0);
            range("taken", x, (y, a) -> y.taken(a[0], a[1]), args(0, 0), 0, 0, 3, BAD);
            for (int as : new int[] {-1, 6, 7, 8, 9, 15, Integer.MIN_VALUE, Integer.MAX_VALUE}) {
                due("as " + as, x.taken(0, as), BAD);
                due("of nothing as " + as, x.taken(1, as), BAD);
            }
        });
        promise(44, "-13;", x -> {
            x.hand(1, 5, 0, 9);
            x.sheet(0, INTS, 1);
            x.shelf(0, 0, 0);
            x.shelf(1, 1, 0);
            for (int as = 10; as <= 14; as++) due("a hand for a row", x.taken(0, as), ANOTHER);
            for (int as = 0; as <= 5; as++) due("a row for a hand", x.taken(1, as), ANOTHER);
            due("a child for a dog", x.taken(0, 5), ANOTHER);
            due("ints for longs", x.taken(1, 13), ANOTHER);
        });
        promise(44, "-11.", x -> {
            for (int as = 0; as <= 5; as++) due("nothing for a hand", x.taken(0, as), NOTHING);
            for (int as = 10; as <= 14; as++) due("nothing for a row", x.taken(0, as), NOTHING);
        });
    }

    // ---- promises 45 to 47

    private static void actCalls() {
        promise(45, "An ACT (0 to 3) of the thing on a SHELF, with x.", x -> {
            int[] due = {(9 ^ 5) * 5, (9 ^ 5) * 5 - 2, 1, ((9 ^ 5) * 5 - 2) * 2 + 1};
            x.hand(1, 5, 0, 2);
            for (int shelf = 0; shelf < 4; shelf++) {
                x.shelf(shelf, 0, 0);
                for (int act = 0; act < 4; act++) due("act " + act, x.act(shelf, act, 9), due[act]);
            }
            due("it changes nothing else", x.handOf(0, 3), 2);
        });
        promise(45, "0, and no TRACE then: no such SHELF, act, nothing, a row.", x -> {
            x.hand(1, 5, 0, 2);
            x.shelf(0, 0, 0);
            x.sheet(0, BYTES, 4);
            x.shelf(1, 1, 0);
            int[][] none = {{-1, 0}, {4, 0}, {Integer.MIN_VALUE, 0}, {Integer.MAX_VALUE, 0}, {0, -1}, {0, 4}, {0, Integer.MIN_VALUE},
                {0, Integer.MAX_VALUE}, {1, 0}, {1, 3}, {2, 0}, {2, 3}};
            for (int[] a : none) {
                x.act(0, 3, 7);
                due("traced", x.many(6), 5);
                due("shelf " + a[0] + " act " + a[1], x.act(a[0], a[1], 7), 0);
                due("no trace", x.many(6), 0);
                due("no body", x.trace(0), NONE);
            }
        });
        promise(46, "THE TRACE's i-th body.", x -> {
            ChalkWars y = held(3, 2, 7);
            y.act(2, 3, 5);
            int[] ran = {51, 13, 30, 11, 50, 10, 12, 30, 11, 50, 10};
            for (int i = 0; i < ran.length; i++) due("body " + i, y.trace(i), ran[i]);
        });
        promise(46, "NONE.", x -> {
            for (int i : new int[] {0, -1, Integer.MIN_VALUE, Integer.MAX_VALUE}) due("at first", x.trace(i), NONE);
            ChalkWars y = held(3, 2, 7);
            y.act(2, 3, 5);
            range("trace", y, (z, a) -> z.trace(a[0]), args(0), 0, 0, 10, NONE);
            for (int i = 11; i <= 31; i++) due("trace " + i, y.trace(i), NONE);
        });
        promise(47, "How many: what = 0 HANDS, 1 RULES, 2 those SHUT, 3 REPORTS, 4 ROWS, 5 bytes of THE TAPE,"
            + " 6 bodies of THE TRACE (those kept, 30 at most).", x -> {
            for (int what = 0; what <= 6; what++) due("at first, what " + what, x.many(what), 0);
            ChalkWars y = held(3, 5, 7);
            rulesOf(y, "dog rub;".repeat(8));
            for (int i = 0; i < 6; i++) y.report(i, 0, 11);
            y.prove(4);
            for (int i = 0; i < 25; i++) y.feed(0, 8);
            y.act(2, 3, 5);
            y.set(2, ALL_EDGES);
            int[] most = {6, 8, 11, 6, 4, 200, 11};
            for (int what = 0; what <= 6; what++) due("at most, what " + what, y.many(what), most[what]);
        });
        promise(47, "BAD: another what.", x -> range("many", x, (y, a) -> y.many(a[0]), args(0), 0, 0, 6, BAD));
    }

    // ---- promises 48, 49

    private static void keepCalls() {
        promise(48, "All but THE TAPE, ROWS, SHEETS, SHELVES, THE TRACE is kept: 1.", x -> {
            x.hand(2, 1, 2, 9);
            rulesOf(x, "general draw;");
            x.report(0, 5, 5);
            int[] told = {9, 1, 1 << 9, 5, 4};
            for (int what = 0; what < 5; what++) x.set(what, told[what]);
            x.seed(77);
            x.dusk();
            x.prove(1);
            String was = keptOf(x);
            due("keep", x.keep(), 1);
            due("rows stay", x.many(4), 1);
            x.hand(5, 3, 3, 3);
            x.remake(0, 1);
            x.change(0, 1, 9);
            x.change(0, 2, 3);
            x.change(0, 3, 1);
            rulesOf(x, "dog rest;child rest;");
            x.forget();
            for (int what = 0; what < 5; what++) x.set(what, told[what] + 1);
            x.seed(5);
            x.lot();
            x.feed(0, 3);
            x.prove(2);
            x.alterRow(1, 2, -7);
            acts(x, 1, 4, 5);
            x.shelf(0, 0, 0);
            x.shelf(1, 1, 1);
            x.act(0, 3, 5);
            due("again", x.again(), 1);
            due("what is kept", keptOf(x), was);
            due("the tape is not", x.many(5), 3);
            due("nor are rows", x.row(1, 2), -7);
            due("nor sheets", x.item(1, BYTES, 1), 5);
            due("nor shelves", x.taken(1, 10), 2);
            due("nor those that hold hands", x.taken(0, 2), 0);
            due("nor the trace", x.many(6), 5);
        });
        promise(49, "It becomes what was kept latest (which stays): how many HANDS.", x -> {
            x.keep();
            for (int i = 0; i < 6; i++) x.hand(1 + i % 5, i, 0, i);
            due("none", x.again(), 0);
            due("none there", x.many(0), 0);
            for (int i = 0; i < 6; i++) x.hand(1 + i % 5, i, 0, i);
            x.keep();
            x.anew();
            x.change(5, 1, 11);
            for (int i = 0; i < 3; i++) {
                due("six", x.again(), 6);
                due("at 5", x.handOf(5, 1), 5);
                due("dusk 0", x.state(0), 0);
                x.dusk();
                x.change(5, 1, 11);
            }
            x.keep();
            x.dusk();
            x.again();
            due("the latest", x.state(0), 1);
            due("of it, too", x.handOf(5, 1), 11);
            due("a seventh", x.hand(1, 1, 1, 1), FULL);
        });
        promise(49, "NONE: nothing is kept.", x -> {
            due("at first", x.again(), NONE);
            x.hand(1, 1, 1, 1);
            due("still", x.again(), NONE);
            due("the hand is there", x.many(0), 1);
            x.keep();
            due("now", x.again(), 1);
        });
    }

    private static String keptOf(ChalkWars x) {
        StringBuilder all = new StringBuilder();
        for (int h = 0; h < x.many(0); h++) for (int what = 0; what < 9; what++) all.append(' ').append(x.handOf(h, what));
        for (int what = 0; what < 9; what++) all.append(' ').append(x.state(what));
        all.append(' ').append(x.many(1)).append(' ').append(x.many(3)).append(' ').append(x.span(2)).append(' ').append(chance(x));
        return all.toString();
    }
}
