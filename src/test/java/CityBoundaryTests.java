/** The city, its HANDS, and what a DUSK does: section 1 of the document, promises 1 to 9 and 12. */
final class CityBoundaryTests extends Sentences {
    static void all() {
        map();
        whatIsSet();
        hands();
        kinds();
        strokes();
        costs();
        turns();
        shut();
        walking();
        told();
        drawing();
        rain();
        newObject();
        handCalls();
        setCalls();
        edgeCalls();
        anewCalls();
        stateCalls();
        duskCalls();
    }

    // ---- section 1

    private static void map() {
        says("======== 1 CELLS 0 to 11 lie in three rows of four (0 to 3 in the first one, 4 to 7, 8 to 11).", x -> {
            for (int cell = 0; cell < 12; cell++) {
                boolean first = cell == 0 || cell == 4 || cell == 8;
                boolean last = cell == 3 || cell == 7 || cell == 11;
                due("none right of " + cell, x.edge(cell, 0) == NONE ? 1 : 0, last ? 1 : 0);
                due("none left of " + cell, x.edge(cell, 2) == NONE ? 1 : 0, first ? 1 : 0);
                due("none above " + cell, x.edge(cell, 3) == NONE ? 1 : 0, cell <= 3 ? 1 : 0);
                due("none below " + cell, x.edge(cell, 1) == NONE ? 1 : 0, cell >= 8 ? 1 : 0);
            }
        });
        says("EDGES: 0 to 8: EDGE 3r + c between CELL 4r + c and the next one in its row (c 0 to 2, r 0 to 2);", x -> {
            for (int r = 0; r <= 2; r++) for (int c = 0; c <= 2; c++) {
                due("edge right", x.edge(4 * r + c, 0), 3 * r + c);
                due("and back", x.edge(4 * r + c + 1, 2), 3 * r + c);
                x.set(2, ALL_EDGES ^ 1 << 3 * r + c);
                due("the way between", x.way(4 * r + c, 4 * r + c + 1), 1);
            }
        });
        says("9 to 16: EDGE 9 + 4r + c between CELL 4r + c and the one below it, 4 more (c 0 to 3, r 0 to 1).", x -> {
            for (int r = 0; r <= 1; r++) for (int c = 0; c <= 3; c++) {
                due("edge down", x.edge(4 * r + c, 1), 9 + 4 * r + c);
                due("and up", x.edge(4 * r + c + 4, 3), 9 + 4 * r + c);
                x.set(2, ALL_EDGES ^ 1 << 9 + 4 * r + c);
                due("the way between", x.way(4 * r + c, 4 * r + c + 4), 1);
            }
        });
    }

    private static void whatIsSet() {
        says("LINES: a set of EDGES (none at first);", x -> {
            due("at first", x.state(6), 0);
            due("edge 17", x.set(2, 1 << 17), BAD);
            due("edge 16", x.set(2, 1 << 16), 0);
            due("all", x.set(2, ALL_EDGES), 1 << 16);
        });
        says("DRY: one (none at first).", x -> {
            due("at first", x.state(7), 0);
            due("edge 17", x.set(3, 1 << 17), BAD);
            due("edge 16", x.set(3, 1 << 16), 0);
            due("all", x.set(3, ALL_EDGES), 1 << 16);
        });
        says("HOME: a CELL (0 at first).", x -> {
            due("at first", x.state(5), 0);
            due("cell 12", x.set(1, 12), BAD);
            due("cell 11", x.set(1, 11), 0);
            x.set(2, ALL_EDGES);
            due("shut from there", x.state(4), ALL_CELLS ^ 1 << 11);
        });
        says("DUSKS are 0, 1, ..; END is 1 to 16 (12 at first);", x -> {
            due("at first", x.state(1), 12);
            for (int i = 0; i < 12; i++) {
                due("dusk " + i, x.state(0), i);
                due("goes by", x.dusk(), 0);
            }
            due("the thirteenth", x.dusk(), STATE);
            due("0", x.set(0, 0), BAD);
            due("17", x.set(0, 17), BAD);
            due("16", x.set(0, 16), 12);
            for (int i = 12; i < 16; i++) due("dusk " + i, x.dusk(), 0);
            due("the seventeenth", x.dusk(), STATE);
            due("END 1", new ChalkWars().set(0, 1), 12);
        });
        says("DUSK: the one that comes (0 at first); from END on it is OVER.", x -> {
            due("at first", x.state(0), 0);
            x.set(0, 2);
            int[] over = {0, 0, 1};
            for (int i = 0; i < 3; i++) {
                due("over at " + i, x.state(3), over[i]);
                x.dusk();
            }
            due("END is later", x.set(0, 3), 2);
            due("over no more", x.state(3), 0);
            due("END is DUSK", x.set(0, 2), 3);
            due("over again", x.state(3), 1);
        });
        says("RAIN: a set of DUSKS 0 to 15 (none at first).", x -> {
            due("at first", x.state(8), 0);
            due("dusk 16", x.set(4, 1 << 16), BAD);
            due("the first and the last", x.set(4, 1 | 1 << 15), 0);
            x.set(0, 16);
            x.set(2, 513);
            due("rain in dusk 0", x.dusk(), 0);
            x.set(2, 513);
            for (int i = 1; i < 15; i++) due("none in " + i, x.dusk(), 11);
            due("rain in dusk 15", x.dusk(), 0);
        });
        says("SCORE: what DUSKS were WORTH (0 at first).", x -> {
            due("at first", x.state(2), 0);
            x.set(2, 513);
            x.dusk();
            due("a dusk", x.state(2), 11);
            x.lot();
            due("one by lot", x.state(2), 22);
            acts(x, 0, 0, 0);
            x.goAll(0, 0, 2);
            due("two told", x.state(2), 44);
            x.on(3);
            x.best(2);
            x.times(2, 1);
            x.wouldBe(0, 0, 2);
            x.prove(2);
            x.judge();
            due("what is asked is none", x.state(2), 44);
        });
    }

    private static void hands() {
        says("HANDS, 6 at most, numbered as they come:", x -> {
            for (int i = 0; i < 6; i++) due("hand " + i, x.hand(1 + i % 5, i, 0, i), i);
            due("the seventh", x.hand(1, 0, 0, 0), FULL);
            due("six", x.many(0), 6);
            for (int i = 0; i < 6; i++) due("at of " + i, x.handOf(i, 1), i);
        });
        says("a KIND, AT a CELL, FACING (0 to the next one in its row, 1 down, 2 back in its row, 3 up),", x -> {
            int[] to = {6, 9, 4, 1};
            for (int facing = 0; facing < 4; facing++) {
                ChalkWars y = with(4, 5, facing, 0);
                y.dusk();
                due("facing " + facing, y.handOf(0, 1), to[facing]);
            }
            due("facing 4", x.hand(1, 5, 4, 0), BAD);
            due("facing -1", x.hand(1, 5, -1, 0), BAD);
        });
        says("CHALK (0 to 9).", x -> {
            due("-1", x.hand(1, 5, 0, -1), BAD);
            due("10", x.hand(1, 5, 0, 10), BAD);
            due("0", x.hand(1, 5, 0, 0), 0);
            due("9", x.hand(1, 5, 0, 9), 1);
            due("0 there", x.handOf(0, 3), 0);
            due("9 there", x.handOf(1, 3), 9);
        });
    }

    private static void kinds() {
        says("KINDS: 0 hand; 1 child, 2 general, 4 rubber (under hand); 3 mother (under general); 5 dog (under rubber).", x -> {
            String[] names = {"hand", "child", "general", "mother", "rubber", "dog"};
            int[] above = {1 | 2, 1 | 4, 1 | 4 | 8, 1 | 16, 1 | 16 | 32};
            for (int kind = 1; kind <= 5; kind++) {
                ChalkWars y = with(kind, 5, 0, 9);
                y.shelf(0, 0, 0);
                for (int as = 0; as <= 5; as++) {
                    boolean is = (above[kind - 1] >> as & 1) != 0;
                    due("kind " + kind + " taken as " + as, y.taken(0, as), is ? 0 : ANOTHER);
                    rulesOf(y, names[as] + " rest;");
                    due("kind " + kind + " told as " + as, y.handOf(0, 8), is ? 1 : 0);
                }
            }
        });
    }

    private static void strokesDue(int kind, int... byFacing) {
        for (int facing = 0; facing < 4; facing++) {
            due("strokes of " + kind + " facing " + facing, with(kind, 5, facing, 9).handOf(0, 4), byFacing[facing]);
        }
    }

    private static void strokes() {
        says("STROKES (where it draws): hand: FACING.", x -> strokesDue(4, 1, 2, 4, 8));
        says("child: as a hand, and the one behind it (FACING 2 on, round by 4).", x -> strokesDue(1, 5, 10, 5, 10));
        says("general: all but that behind it.", x -> strokesDue(2, 11, 7, 14, 13));
        says("mother: as a general, but not FACING.", x -> strokesDue(3, 10, 5, 10, 5));
        says("rubber: as a hand. dog: all four.", x -> {
            strokesDue(4, 1, 2, 4, 8);
            strokesDue(5, 15, 15, 15, 15);
        });
        says("RUBS: rubber, dog.", x -> {
            int[] rubs = {0, 0, 0, 1, 1};
            for (int kind = 1; kind <= 5; kind++) {
                ChalkWars y = with(kind, 5, 0, 9);
                y.set(2, ALL_EDGES ^ 1 << 4);
                y.dusk();
                due("fewer lines by kind " + kind, y.state(6) < (ALL_EDGES ^ 1 << 4) ? 1 : 0, rubs[kind - 1]);
                due("rubs, kind " + kind, y.handOf(0, 7), rubs[kind - 1]);
            }
        });
        says("CROSSES LINES: dog.", x -> {
            for (int kind = 1; kind <= 5; kind++) {
                ChalkWars y = with(kind, 5, 0, 9);
                rulesOf(y, "hand rest;");
                y.set(2, 1 << 4);
                y.dusk();
                due("goes across, kind " + kind, y.handOf(0, 1), kind == 5 ? 6 : 5);
                due("the line stays", y.state(6), 1 << 4);
            }
        });
    }

    /** Just as much CHALK as it COSTS is enough, and 1 less is not. */
    private static void drawsFrom(int kind, int costs, int lines) {
        for (int chalk = 0; chalk <= 9; chalk++) {
            ChalkWars x = with(kind, 5, 0, chalk);
            due("costs of " + kind, x.handOf(0, 5), costs);
            x.dusk();
            due("lines of " + kind + " with " + chalk, x.state(6), chalk >= costs ? lines : 0);
            due("chalk of " + kind + " with " + chalk, x.handOf(0, 3), chalk >= costs ? chalk - costs : chalk);
        }
    }

    private static void costs() {
        says("COSTS (CHALK): hand: 1. child: 2.", x -> drawsFrom(1, 2, 1 << 4 | 1 << 5));
        says("general: 3. mother: 1 less than a general.", x -> drawsFrom(2, 3, 1 << 5 | 1 << 11 | 1 << 15));
        says("general: 3. mother: 1 less than a general.", x -> drawsFrom(3, 2, 1 << 11 | 1 << 15));
        says("rubber: 0. dog: as a rubber.", x -> {
            for (int kind = 4; kind <= 5; kind++) {
                ChalkWars y = with(kind, 5, 0, 0);
                due("costs", y.handOf(0, 5), 0);
                y.set(2, 1 << 5);
                y.dusk();
                due("rubs without chalk", y.state(6), 0);
                due("and stays at 0", y.handOf(0, 3), 0);
            }
        });
    }

    private static void turnsBy(int kind, int by) {
        due("turns of " + kind, with(kind, 5, 0, 0).handOf(0, 6), by);
        int[] walls = {3, 8, 0, 0};
        for (int facing = 0; facing < 4; facing++) {
            ChalkWars x = with(kind, walls[facing], facing, 0);
            x.dusk();
            due("kind " + kind + " turned from " + facing, x.handOf(0, 2), (facing + by) % 4);
            due("stays", x.handOf(0, 1), walls[facing]);
        }
    }

    private static void turns() {
        says("TURNS (by how many, when it can't go on): hand: 1. child: 2.", x -> turnsBy(1, 2));
        says("general: as a hand. mother: 3.", x -> {
            turnsBy(2, 1);
            turnsBy(3, 3);
        });
        says("rubber: as a hand. dog: twice as a rubber.", x -> {
            turnsBy(4, 1);
            turnsBy(5, 2);
        });
    }

    private static void shut() {
        says("A CELL is SHUT, if one can't come to it from HOME by EDGES that are no LINES.", x -> {
            due("none without lines", x.state(4), 0);
            x.set(2, ALL_EDGES);
            due("all but HOME", x.state(4), ALL_CELLS ^ 1);
            x.set(1, 11);
            due("all but another HOME", x.state(4), ALL_CELLS ^ 1 << 11);
            x.set(1, 0);
            x.set(2, 1 << 8 | 1 << 16);
            due("a corner", x.state(4), 1 << 11);
            x.set(2, 1 << 9 | 1 << 10 | 1 << 11 | 1 << 14 | 1 << 15 | 1 << 16);
            due("none, however long the way", x.state(4), 0);
            x.set(2, x.state(6) | 1 << 8);
            due("at its end", x.state(4), 1 << 11);
            x.set(2, 1 << 2 | 1 << 5 | 1 << 8);
            due("a column", x.state(4), 1 << 3 | 1 << 7 | 1 << 11);
        });
    }

    private static void walking() {
        says("A DUSK goes by: (1) HANDS by numbers: each goes on to the CELL it is FACING, if there is one,", x -> {
            for (int i = 0; i < 6; i++) x.hand(4, 5, 0, 0);
            x.dusk();
            for (int i = 0; i < 6; i++) due("all walk, also to one cell: " + i, x.handOf(i, 1), 6);
            x.dusk();
            x.dusk();
            for (int i = 0; i < 6; i++) due("all stay at the wall: " + i, x.handOf(i, 1), 7);
            ChalkWars up = with(4, 3, 3, 0);
            up.dusk();
            due("none above 3", up.handOf(0, 1), 3);
            ChalkWars down = with(4, 8, 1, 0);
            down.dusk();
            due("none below 8", down.handOf(0, 1), 8);
            ChalkWars back = with(4, 4, 2, 0);
            back.dusk();
            due("4 is not next to 3", back.handOf(0, 1), 4);
        });
        says("and (but one that CROSSES) the EDGE between is no LINE;", x -> {
            ChalkWars general = with(2, 5, 0, 9);
            general.set(2, 1 << 4);
            general.dusk();
            due("a line ahead", general.handOf(0, 1), 5);
            ChalkWars beside = with(2, 5, 0, 9);
            beside.set(2, ALL_EDGES ^ 1 << 4);
            beside.dusk();
            due("lines everywhere else", beside.handOf(0, 1), 6);
            ChalkWars dog = with(5, 5, 0, 9);
            dog.set(2, ALL_EDGES);
            dog.dusk();
            due("a dog", dog.handOf(0, 1), 6);
            ChalkWars later = with(1, 5, 0, 9);
            later.hand(4, 6, 0, 0);
            later.dusk();
            due("lines drawn in this dusk bar no one yet", later.handOf(1, 1), 7);
        });
        says("else FACING is as many more as it TURNS, round by 4.", x -> {
            int[] turned = {1, 0, 2, 0, 1};
            int[] from = {3, 3, 3, 3, 3};
            for (int kind = 1; kind <= 5; kind++) {
                ChalkWars y = with(kind, 1, from[kind - 1], 0);
                y.dusk();
                due("kind " + kind + " facing up at the wall", y.handOf(0, 2), turned[kind - 1]);
                due("does not walk as well", y.handOf(0, 1), 1);
            }
            ChalkWars line = with(3, 5, 3, 0);
            line.set(2, 1 << 10);
            line.dusk();
            due("at a line", line.handOf(0, 2), 2);
            ChalkWars goes = with(3, 5, 3, 0);
            goes.dusk();
            due("who goes on doesn't turn", goes.handOf(0, 2), 3);
        });
    }

    private static void told() {
        says("(2) The HAND that is told (if one is) does as its WILL is: draw (if no RULE tells), rest, or rub:", x -> {
            x.hand(2, 5, 0, 9);
            x.hand(2, 4, 0, 9);
            due("none is told", passWith(x, 0), 0);
            due("none drew", x.state(6), 0);
            passWith(x, 2);
            due("the second drew", x.handOf(1, 3), 6);
            due("the first didn't", x.handOf(0, 3), 9);
            rulesOf(x, "hand rest;");
            int lines = x.state(6);
            passWith(x, 1);
            due("rests", x.state(6), lines);
            ChalkWars rubs = with(2, 5, 0, 0);
            rubs.set(2, 1 << 5);
            rulesOf(rubs, "hand rub;");
            rubs.dusk();
            due("rubs", rubs.state(6), 0);
        });
        says("the first of THE RULES whose KIND is its or above it, and whose condition holds, tells it.", x -> {
            x.hand(3, 5, 0, 9);
            rulesOf(x, "mother rub;general rest;hand draw;");
            due("the first of three", x.handOf(0, 8), 2);
            rulesOf(x, "child rub;rubber rub;dog rub;general rest;mother rub;");
            due("the first that is its or above it", x.handOf(0, 8), 1);
            rulesOf(x, "mother if at=6 rub;mother if at=5 rest;");
            due("the first that holds", x.handOf(0, 8), 1);
            x.dusk();
            due("by what is so behind the walk", x.state(6), 0);
            rulesOf(x, "mother if at=0 rest;mother if at=1 rub;child rest;");
            due("none", x.handOf(0, 8), 0);
            rulesOf(x, "child rest;child rest;child rest;child rest;child rest;child rest;child rest;mother rub;");
            due("the eighth", x.handOf(0, 8), 2);
        });
    }

    private static void drawing() {
        says("draw, of one that doesn't RUB: if it has as much CHALK as it COSTS, that is gone,", x -> {
            x.hand(1, 5, 0, 2);
            x.dusk();
            due("as much", x.handOf(0, 3), 0);
            x.dusk();
            due("never below 0", x.handOf(0, 3), 0);
            ChalkWars less = with(1, 5, 0, 1);
            less.dusk();
            due("less: it stays", less.handOf(0, 3), 1);
            due("and nothing is drawn", less.state(6), 0);
            ChalkWars twice = with(1, 5, 0, 9);
            twice.set(2, 1 << 3 | 1 << 4);
            twice.dusk();
            due("what is drawn already costs as much", twice.handOf(0, 3), 7);
            due("and stays drawn", twice.state(6), 1 << 3 | 1 << 4);
        });
        says("and EDGES of its CELL where its STROKES are become LINES.", x -> {
            x.hand(2, 0, 3, 3);
            due("a general in a corner", x.dusk(), 11);
            due("turned to 0: right and down, and nothing above", x.state(6), 513);
            due("for as much", x.handOf(0, 3), 0);
            ChalkWars last = with(1, 11, 1, 9);
            last.dusk();
            due("a child in the last corner: turned to 3, up alone", last.state(6), 1 << 16);
            ChalkWars mother = with(3, 8, 1, 9);
            mother.dusk();
            due("a mother turned to 0: up alone", mother.state(6), 1 << 13);
            ChalkWars more = with(1, 5, 0, 9);
            more.set(2, 1 << 16);
            more.dusk();
            due("other lines stay", more.state(6), 1 << 16 | 1 << 4 | 1 << 5);
        });
        says("rub, or draw of one that RUBS: these are LINES no more.", x -> {
            x.hand(2, 5, 0, 0);
            x.set(2, ALL_EDGES ^ 1 << 4);
            rulesOf(x, "hand rub;");
            x.dusk();
            due("a general told to rub", x.state(6), ALL_EDGES ^ (1 << 4 | 1 << 5 | 1 << 11 | 1 << 15));
            ChalkWars chalk = with(2, 5, 0, 9);
            rulesOf(chalk, "hand rub;");
            chalk.dusk();
            due("costs nothing", chalk.handOf(0, 3), 9);
            for (int i = 0; i < 2; i++) {
                ChalkWars dog = with(5, 5, 0, 0);
                dog.set(2, ALL_EDGES);
                rulesOf(dog, i == 0 ? "dog draw;" : "dog rub;");
                dog.dusk();
                due("a dog", dog.state(6), ALL_EDGES ^ (1 << 4 | 1 << 5 | 1 << 11 | 1 << 15));
            }
            ChalkWars rubber = with(4, 5, 0, 9);
            rubber.dusk();
            due("no lines: none come", rubber.state(6), 0);
            due("chalk of a rubber stays", rubber.handOf(0, 3), 9);
        });
        says("rest: nothing.", x -> {
            x.hand(5, 5, 0, 7);
            x.hand(2, 9, 0, 7);
            x.set(2, 1 << 5);
            rulesOf(x, "hand rest;");
            x.dusk();
            x.dusk();
            due("lines", x.state(6), 1 << 5);
            due("chalk", x.handOf(0, 3) + x.handOf(1, 3), 14);
        });
    }

    private static void rain() {
        says("(3) In a DUSK of RAIN all LINES but those that are DRY are gone.", x -> {
            x.set(2, ALL_EDGES);
            x.set(3, 1 | 1 << 16);
            x.set(4, 4);
            x.dusk();
            x.dusk();
            due("not ahead of it", x.state(6), ALL_EDGES);
            x.dusk();
            due("but those that are dry", x.state(6), 1 | 1 << 16);
            x.set(2, 1 << 16 | 2);
            x.dusk();
            due("not behind it", x.state(6), 1 << 16 | 2);
            ChalkWars drawn = with(2, 0, 3, 9);
            drawn.set(4, 1);
            drawn.set(3, 1);
            drawn.dusk();
            due("also what was drawn in it", drawn.state(6), 1);
            ChalkWars none = new ChalkWars();
            none.set(2, 2);
            none.set(3, 1 | 4);
            none.set(4, 1);
            none.dusk();
            due("what is dry and no line becomes none", none.state(6), 0);
        });
        says("It is WORTH how many CELLS are SHUT then; DUSK is 1 more.", x -> {
            x.hand(2, 0, 3, 9);
            due("with what was drawn in it", x.dusk(), 11);
            due("dusk", x.state(0), 1);
            due("score", x.state(2), 11);
            x.set(4, 2);
            due("without what the rain took", x.dusk(), 0);
            due("dusk then", x.state(0), 2);
            due("score then", x.state(2), 11);
            x.set(2, 1 << 8 | 1 << 16);
            x.set(0, 3);
            rulesOf(x, "hand rest;");
            due("one cell, in the last", x.dusk(), 1);
            due("dusk at the end", x.state(0), 3);
        });
    }

    // ---- promises

    private static void newObject() {
        promise(1, "No HANDS, RULES, REPORTS;", x -> {
            due("hands", x.many(0), 0);
            due("rules", x.many(1), 0);
            due("reports", x.many(3), 0);
            due("hand 0", x.handOf(0, 0), BAD);
            due("all fit", x.span(0), 240);
        });
        promise(1, "nothing is kept.", x -> {
            due("again", x.again(), NONE);
            x.hand(1, 1, 1, 1);
            due("still", x.again(), NONE);
            due("the hand", x.many(0), 1);
        });
    }

    private static void handCalls() {
        Call hand = (x, a) -> x.hand(a[0], a[1], a[2], a[3]);
        promise(2, "A HAND of a KIND 1 to 5: its number.", x -> {
            for (int kind = 1; kind <= 5; kind++) {
                due("number", x.hand(kind, 12 - kind, kind % 4, kind), kind - 1);
                int[] is = {kind, 12 - kind, kind % 4, kind};
                for (int what = 0; what < 4; what++) due("what " + what, x.handOf(kind - 1, what), is[what]);
            }
        });
        promise(2, "A HAND of a KIND 1 to 5: its number. BAD;", x -> {
            range("hand", x, hand, args(1, 5, 0, 9), 0, 1, 5, BAD);
            range("hand", new ChalkWars(), hand, args(1, 5, 0, 9), 1, 0, 11, BAD);
            range("hand", new ChalkWars(), hand, args(1, 5, 0, 9), 2, 0, 3, BAD);
            range("hand", new ChalkWars(), hand, args(1, 5, 0, 9), 3, 0, 9, BAD);
            due("a refused one does not come", x.many(0), 2);
        });
        promise(2, "FULL.", x -> {
            for (int i = 0; i < 5; i++) x.hand(1, 0, 0, 0);
            due("the sixth", x.hand(1, 0, 0, 0), 5);
            due("the seventh", x.hand(1, 0, 0, 0), FULL);
            due("a bad seventh", x.hand(0, 0, 0, 0), BAD);
            due("six", x.many(0), 6);
        });
        promise(3, "Of a HAND: what = 0 KIND, 1 AT, 2 FACING, 3 CHALK, 4 STROKES (as a set of 0 to 3), 5 COSTS, 6 TURNS,", x -> {
            x.hand(3, 11, 3, 9);
            int[] is = {3, 11, 3, 9, 5, 2, 3};
            for (int what = 0; what <= 6; what++) due("what " + what, x.handOf(0, what), is[what]);
        });
        promise(3, "7 1 if it RUBS, else 0,", x -> {
            int[] rubs = {0, 0, 0, 1, 1};
            for (int kind = 1; kind <= 5; kind++) due("kind " + kind, with(kind, 1, 1, 1).handOf(0, 7), rubs[kind - 1]);
        });
        promise(3, "8 WILL as all is now (0 draw, 1 rest, 2 rub).", x -> {
            x.hand(5, 5, 0, 3);
            due("no rule: draw, also of one that rubs", x.handOf(0, 8), 0);
            rulesOf(x, "dog if dusk=0 rest;dog if dusk=12 rub;");
            due("rest", x.handOf(0, 8), 1);
            x.dusk();
            due("another dusk: draw", x.handOf(0, 8), 0);
            for (int i = 1; i < 12; i++) x.dusk();
            due("when it is over, too: rub", x.handOf(0, 8), 2);
            rulesOf(x, "dog if chalk=3 rest;");
            due("by other rules", x.handOf(0, 8), 1);
            x.change(0, 3, 4);
            due("with other chalk", x.handOf(0, 8), 0);
        });
        promise(3, "BAD.", x -> {
            x.hand(1, 5, 0, 9);
            x.hand(1, 5, 0, 9);
            range("handOf", x, (y, a) -> y.handOf(a[0], a[1]), args(0, 0), 0, 0, 1, BAD);
            range("handOf", x, (y, a) -> y.handOf(a[0], a[1]), args(0, 0), 1, 0, 8, BAD);
            for (int what = 0; what <= 8; what++) due("of no hand, what " + what, x.handOf(2, what), BAD);
        });
        promise(4, "AT (what 1), FACING (2), CHALK (3) of a HAND becomes v: what it was.", x -> {
            x.hand(1, 5, 2, 6);
            x.hand(1, 5, 2, 6);
            int[] was = {0, 5, 2, 6}, most = {0, 11, 3, 9};
            for (int what = 1; what <= 3; what++) {
                due("change " + what, x.change(0, what, most[what]), was[what]);
                due("to the same", x.change(0, what, most[what]), most[what]);
                due("is", x.handOf(0, what), most[what]);
                due("the other one's", x.handOf(1, what), was[what]);
                due("to 0", x.change(0, what, 0), most[what]);
                due("is 0", x.handOf(0, what), 0);
            }
            due("kind", x.handOf(0, 0), 1);
        });
        promise(4, "BAD.", x -> {
            x.hand(1, 5, 2, 6);
            Call change = (y, a) -> y.change(a[0], a[1], a[2]);
            range("change", x, change, args(0, 1, 0), 0, 0, 0, BAD);
            range("change", x, change, args(0, 1, 0), 1, 1, 3, BAD);
            range("change AT", x, change, args(0, 1, 0), 2, 0, 11, BAD);
            range("change FACING", x, change, args(0, 2, 0), 2, 0, 3, BAD);
            range("change CHALK", x, change, args(0, 3, 0), 2, 0, 9, BAD);
        });
        promise(5, "A HAND becomes one of another KIND (1 to 5): the KIND that it was.", x -> {
            x.hand(1, 5, 2, 6);
            int[] costs = {2, 3, 2, 0, 0};
            for (int kind = 5; kind >= 1; kind--) {
                due("from", x.remake(0, kind), kind == 5 ? 1 : kind + 1);
                due("is", x.handOf(0, 0), kind);
                due("costs as such", x.handOf(0, 5), costs[kind - 1]);
            }
            int[] stays = {1, 5, 2, 6};
            for (int what = 0; what <= 3; what++) due("stays: " + what, x.handOf(0, what), stays[what]);
        });
        promise(5, "BAD.", x -> {
            x.hand(1, 5, 2, 6);
            range("remake", x, (y, a) -> y.remake(a[0], a[1]), args(0, 2), 0, 0, 0, BAD);
            range("remake", x, (y, a) -> y.remake(a[0], a[1]), args(0, 2), 1, 1, 5, BAD);
        });
    }

    private static void setCalls() {
        Call set = (x, a) -> x.set(a[0], a[1]);
        promise(6, "END (what 0), HOME (1), LINES (2), DRY (3), RAIN (4) becomes v: what it was.", x -> {
            int[] was = {12, 0, 0, 0, 0}, v = {9, 7, 21, 22, 23}, told = {1, 5, 6, 7, 8};
            for (int what = 0; what <= 4; what++) due("set " + what, x.set(what, v[what]), was[what]);
            for (int what = 0; what <= 4; what++) due("state " + told[what], x.state(told[what]), v[what]);
            for (int what = 0; what <= 4; what++) due("set again " + what, x.set(what, 8), v[what]);
            for (int what = 0; what <= 4; what++) due("nothing else, state " + told[what], x.state(told[what]), 8);
        });
        promise(6, "BAD;", x -> {
            range("set", x, set, args(0, 1), 0, 0, 4, BAD);
            int[] least = {1, 0, 0, 0, 0}, most = {16, 11, ALL_EDGES, ALL_EDGES, ALL_DUSKS};
            for (int what = 0; what <= 4; what++) range("set " + what, x, set, args(what, 1), 1, least[what], most[what], BAD);
        });
        promise(6, "STATE: END were below DUSK.", x -> {
            for (int i = 0; i < 3; i++) x.dusk();
            due("1", x.set(0, 1), STATE);
            due("2", x.set(0, 2), STATE);
            due("END still", x.state(1), 12);
            due("0 is bad first", x.set(0, 0), BAD);
            due("DUSK itself", x.set(0, 3), 12);
            due("others are free of it", x.set(1, 2), 0);
        });
    }

    private static void edgeCalls() {
        Call edge = (x, a) -> x.edge(a[0], a[1]);
        promise(7, "The EDGE from a CELL to where one is FACING.", x -> {
            int[] is = {4, 14, 3, 10};
            for (int facing = 0; facing < 4; facing++) due("from 5", x.edge(5, facing), is[facing]);
            x.set(2, ALL_EDGES);
            due("a line is an edge, too", x.edge(11, 3), 16);
        });
        promise(7, "BAD;", x -> {
            range("edge", x, edge, args(5, 0), 0, 0, 11, BAD);
            range("edge", x, edge, args(5, 0), 1, 0, 3, BAD);
            due("no such facing in a corner", x.edge(0, 4), BAD);
        });
        promise(7, "NONE: there is no CELL.", x -> {
            for (int c = 0; c < 4; c++) {
                due("above", x.edge(c, 3), NONE);
                due("below", x.edge(8 + c, 1), NONE);
            }
            for (int r = 0; r < 3; r++) {
                due("behind the row", x.edge(4 * r + 3, 0), NONE);
                due("ahead of the row", x.edge(4 * r, 2), NONE);
            }
        });
    }

    private static void anewCalls() {
        promise(8, "DUSK is 0 again, SCORE 0, there are no LINES (HANDS stay): what DUSK was.", x -> {
            due("at once", x.anew(), 0);
            x.hand(2, 0, 3, 9);
            x.set(0, 3);
            x.set(1, 4);
            x.set(3, 5);
            x.set(4, 1 << 9);
            rulesOf(x, "general if dusk>0 rest;");
            x.report(0, 1, 1);
            x.seed(4);
            for (int i = 0; i < 3; i++) x.dusk();
            int[] hand = new int[4];
            for (int what = 0; what < 4; what++) hand[what] = x.handOf(0, what);
            due("over", x.state(3), 1);
            due("what DUSK was", x.anew(), 3);
            int[] state = {0, 3, 0, 0, 0, 4, 0, 5, 1 << 9};
            for (int what = 0; what < 9; what++) due("state " + what, x.state(what), state[what]);
            for (int what = 0; what < 4; what++) due("of the hand " + what, x.handOf(0, what), hand[what]);
            due("rules stay", x.many(1), 1);
            due("reports stay", x.many(3), 1);
            due("z stays", x.seed(4), 4);
            due("DUSKS go by again", x.dusk() >= 0 ? 1 : 0, 1);
        });
    }

    private static void stateCalls() {
        promise(9, "What = 0 DUSK, 1 END, 2 SCORE, 3 1 if it is OVER, else 0, 4 CELLS that are SHUT, as a set, 5 HOME, 6 LINES, 7 DRY,"
            + " 8 RAIN.", x -> {
            x.set(0, 2);
            x.set(1, 11);
            x.set(2, 1 << 8 | 1 << 16);
            x.set(3, ALL_EDGES);
            x.set(4, ALL_DUSKS);
            x.dusk();
            int[] is = {1, 2, 11, 0, ALL_CELLS ^ 1 << 11, 11, 1 << 8 | 1 << 16, ALL_EDGES, ALL_DUSKS};
            for (int what = 0; what < 9; what++) due("state " + what, x.state(what), is[what]);
            x.dusk();
            due("over", x.state(3), 1);
            due("score", x.state(2), 22);
        });
        promise(9, "BAD.", x -> range("state", x, (y, a) -> y.state(a[0]), args(0), 0, 0, 8, BAD));
    }

    private static void duskCalls() {
        promise(12, "A DUSK goes by, HANDS being told by turns: what it was WORTH.", x -> {
            for (int i = 0; i < 3; i++) x.hand(2, 4, 0, 9);
            x.set(0, 4);
            int[][] chalk = {{6, 9, 9}, {6, 6, 9}, {6, 6, 6}, {3, 6, 6}};
            for (int i = 0; i < 4; i++) {
                int worth = x.dusk();
                due("worth", Integer.bitCount(x.state(4)), worth);
                for (int h = 0; h < 3; h++) due("chalk of " + h + " behind " + i, x.handOf(h, 3), chalk[i][h]);
            }
            ChalkWars none = new ChalkWars();
            none.set(2, 513);
            due("without hands", none.dusk(), 11);
        });
        promise(12, "STATE: it is OVER.", x -> {
            x.hand(2, 5, 0, 9);
            x.set(0, 1);
            due("the last", x.dusk(), 0);
            due("over", x.dusk(), STATE);
            due("dusk", x.state(0), 1);
            due("nobody walks", x.handOf(0, 1), 6);
            due("nobody draws", x.handOf(0, 3), 6);
        });
    }
}
