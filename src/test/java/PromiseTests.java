/** Each promise by itself: ordinary calls, the edges that the document names, wrong calls. Answers are worked out by hand. */
public final class PromiseTests {
    private static final int BAD = -1, FULL = -2, NONE = -3, STATE = -4;
    private static int passed = 0, failed = 0;

    private static void due(String what, int got, int want) {
        if (got == want) passed++;
        else {
            failed++;
            System.out.println(what + " answered " + got + ", due is " + want);
        }
    }

    public static void main(String[] args) {
        constants();
        newObject();
        hand();
        handOf();
        changeAndRemake();
        set();
        edge();
        anewAndState();
        feed();
        rulesRead();
        rulesFault();
        rulesTell();
        duskWalks();
        duskDraws();
        duskRubs();
        duskRains();
        onAndWhen();
        chalkForAndFacingFor();
        cut();
        way();
        bridges();
        plans();
        plansCutShort();
        siegeAndBars();
        game();
        gameOver();
        reports();
        spanAndLiar();
        seedAndLot();
        times();
        rows();
        judge();
        sheets();
        narrowing();
        goAll();
        wouldBe();
        shelves();
        acts();
        actsParted();
        trace();
        many();
        kept();
        System.out.println(passed + " passed, " + failed + " failed");
        if (failed > 0) System.exit(1);
    }

    private static int rulesOf(ChalkWars x, String text) {
        return Sentences.rulesOf(x, text);
    }

    private static void rulesDue(String text, int want) {
        due("rules of " + text, rulesOf(new ChalkWars(), text), want);
    }

    /** A general by HOME: its draws of DUSKS 0 and 1 shut HOME off from all else. */
    private static ChalkWars besieged() {
        ChalkWars x = new ChalkWars();
        x.hand(2, 1, 2, 9);
        return x;
    }

    private static void constants() {
        due("BAD", ChalkWars.BAD, -1);
        due("FULL", ChalkWars.FULL, -2);
        due("NONE", ChalkWars.NONE, -3);
        due("STATE", ChalkWars.STATE, -4);
    }

    private static void newObject() {
        ChalkWars x = new ChalkWars();
        for (int what = 0; what <= 6; what++) due("new many " + what, x.many(what), 0);
        int[] states = {0, 12, 0, 0, 0, 0, 0, 0, 0};
        for (int what = 0; what < 9; what++) due("new state " + what, x.state(what), states[what]);
        due("new again", x.again(), NONE);
        due("new row", x.row(0, 0), -9);
        due("new trace", x.trace(0), NONE);
        due("new judge", x.judge(), 0);
        for (int i = 0; i < 4; i++) {
            due("new item", x.item(i, 0, 0), -11);
            due("new shelf", x.taken(i, 0), -11);
        }
        due("new seed", x.seed(4), 1);
    }

    private static void hand() {
        ChalkWars x = new ChalkWars();
        due("kind 0", x.hand(0, 1, 1, 1), BAD);
        due("kind 6", x.hand(6, 1, 1, 1), BAD);
        due("cell -1", x.hand(1, -1, 1, 1), BAD);
        due("cell 12", x.hand(1, 12, 1, 1), BAD);
        due("facing -1", x.hand(1, 1, -1, 1), BAD);
        due("facing 4", x.hand(1, 1, 4, 1), BAD);
        due("chalk -1", x.hand(1, 1, 1, -1), BAD);
        due("chalk 10", x.hand(1, 1, 1, 10), BAD);
        due("none of these", x.many(0), 0);
        for (int i = 0; i < 6; i++) due("hand " + i, x.hand(1 + i % 5, 2 * i, i % 4, i), i);
        due("seventh", x.hand(1, 1, 1, 1), FULL);
        due("seventh and bad", x.hand(1, 1, 1, 10), BAD);
        for (int i = 0; i < 6; i++) {
            due("kind of " + i, x.handOf(i, 0), 1 + i % 5);
            due("at of " + i, x.handOf(i, 1), 2 * i);
            due("facing of " + i, x.handOf(i, 2), i % 4);
            due("chalk of " + i, x.handOf(i, 3), i);
        }
    }

    private static void handOf() {
        int[][] strokes = {{5, 10, 5, 10}, {11, 7, 14, 13}, {10, 5, 10, 5}, {1, 2, 4, 8}, {15, 15, 15, 15}};
        int[] costs = {2, 3, 2, 0, 0}, turns = {2, 1, 3, 1, 2}, rubs = {0, 0, 0, 1, 1};
        for (int kind = 1; kind <= 5; kind++) {
            for (int facing = 0; facing < 4; facing++) {
                ChalkWars x = new ChalkWars();
                x.hand(kind, 6, facing, 4);
                due("strokes of " + kind + " facing " + facing, x.handOf(0, 4), strokes[kind - 1][facing]);
                due("costs of " + kind, x.handOf(0, 5), costs[kind - 1]);
                due("turns of " + kind, x.handOf(0, 6), turns[kind - 1]);
                due("rubs of " + kind, x.handOf(0, 7), rubs[kind - 1]);
                due("will of " + kind, x.handOf(0, 8), 0);
                due("what -1", x.handOf(0, -1), BAD);
                due("what 9", x.handOf(0, 9), BAD);
                due("no hand", x.handOf(1, 0), BAD);
                due("hand -1", x.handOf(-1, 0), BAD);
            }
        }
    }

    private static void changeAndRemake() {
        ChalkWars x = new ChalkWars();
        x.hand(1, 5, 2, 6);
        due("change no hand", x.change(1, 1, 1), BAD);
        due("change hand -1", x.change(-1, 1, 1), BAD);
        due("change kind", x.change(0, 0, 1), BAD);
        due("change 4", x.change(0, 4, 1), BAD);
        int[] most = {0, 11, 3, 9}, was = {0, 5, 2, 6};
        for (int what = 1; what <= 3; what++) {
            due("change to -1", x.change(0, what, -1), BAD);
            due("change to too much", x.change(0, what, most[what] + 1), BAD);
            due("change", x.change(0, what, most[what]), was[what]);
            due("changed", x.handOf(0, what), most[what]);
            due("change to 0", x.change(0, what, 0), most[what]);
            due("changed to 0", x.handOf(0, what), 0);
        }
        due("remake no hand", x.remake(1, 1), BAD);
        due("remake 0", x.remake(0, 0), BAD);
        due("remake 6", x.remake(0, 6), BAD);
        due("remake to what it is", x.remake(0, 1), 1);
        due("remake 5", x.remake(0, 5), 1);
        due("remake 1", x.remake(0, 1), 5);
        due("remade", x.handOf(0, 0), 1);
    }

    private static void set() {
        ChalkWars x = new ChalkWars();
        int[] least = {1, 0, 0, 0, 0}, most = {16, 11, 131071, 131071, 65535}, was = {12, 0, 0, 0, 0}, told = {1, 5, 6, 7, 8};
        for (int what = 0; what < 5; what++) {
            due("set too little " + what, x.set(what, least[what] - 1), BAD);
            due("set too much " + what, x.set(what, most[what] + 1), BAD);
            due("set most " + what, x.set(what, most[what]), was[what]);
            due("is most " + what, x.state(told[what]), most[what]);
            due("set least " + what, x.set(what, least[what]), most[what]);
            due("is least " + what, x.state(told[what]), least[what]);
        }
        due("set -1", x.set(-1, 1), BAD);
        due("set 5", x.set(5, 1), BAD);
        x.set(0, 4);
        x.dusk();
        x.dusk();
        due("end below dusk", x.set(0, 1), STATE);
        due("end 0 is bad first", x.set(0, 0), BAD);
        due("end still", x.state(1), 4);
        due("end at dusk", x.set(0, 2), 4);
        due("over", x.state(3), 1);
        due("longer", x.set(0, 3), 2);
        due("not over", x.state(3), 0);
    }

    private static void edge() {
        int[][] edges = {
            {0, 9, NONE, NONE}, {1, 10, 0, NONE}, {2, 11, 1, NONE}, {NONE, 12, 2, NONE},
            {3, 13, NONE, 9}, {4, 14, 3, 10}, {5, 15, 4, 11}, {NONE, 16, 5, 12},
            {6, NONE, NONE, 13}, {7, NONE, 6, 14}, {8, NONE, 7, 15}, {NONE, NONE, 8, 16}};
        ChalkWars x = new ChalkWars();
        for (int cell = 0; cell < 12; cell++) {
            for (int facing = 0; facing < 4; facing++) {
                due("edge of " + cell + " facing " + facing, x.edge(cell, facing), edges[cell][facing]);
            }
        }
        due("edge of -1", x.edge(-1, 0), BAD);
        due("edge of 12", x.edge(12, 0), BAD);
        due("edge facing -1", x.edge(0, -1), BAD);
        due("edge facing 4", x.edge(0, 4), BAD);
    }

    private static void anewAndState() {
        ChalkWars x = besieged();
        x.set(3, 7);
        x.set(4, 1024);
        for (int i = 0; i < 3; i++) x.dusk();
        due("dusk", x.state(0), 3);
        due("score", x.state(2), 22);
        due("shut", x.state(4), 4094);
        due("lines", x.state(6), 513);
        due("state -1", x.state(-1), BAD);
        due("state 9", x.state(9), BAD);
        due("anew", x.anew(), 3);
        int[] states = {0, 12, 0, 0, 0, 0, 0, 7, 1024};
        for (int what = 0; what < 9; what++) due("anew, state " + what, x.state(what), states[what]);
        due("hands stay", x.handOf(0, 1), 0);
        due("chalk stays gone", x.handOf(0, 3), 0);
        due("anew again", x.anew(), 0);
    }

    private static void feed() {
        ChalkWars x = new ChalkWars();
        due("feed 0", x.feed(1, 0), BAD);
        due("feed 9", x.feed(1, 9), BAD);
        due("feed -1", x.feed(1, -1), BAD);
        for (int i = 1; i <= 24; i++) due("feed 8", x.feed(-1L, 8), 8 * i);
        due("feed 7", x.feed(0, 7), 199);
        due("feed over", x.feed(0, 2), FULL);
        due("feed bad over", x.feed(0, 9), BAD);
        due("not fed", x.many(5), 199);
        due("feed the last", x.feed(0, 1), 200);
        due("feed behind", x.feed(0, 1), FULL);
        due("used up", x.rules(), -100);
        due("empty", x.many(5), 0);
        due("room again", x.feed(0, 1), 1);
        ChalkWars y = new ChalkWars();
        y.feed(0x7761726420646e61L, 8);
        due("lowest first: and draw", y.rules(), -100);
        ChalkWars z = new ChalkWars();
        z.feed(0x6472646e6168L, 4);
        z.feed(0x776172642000L >> 8, 5);
        z.feed(0x5a3bL, 1);
        due("hand, draw, ; and only as many bytes as told", z.rules(), 1);
    }

    private static void rulesRead() {
        rulesDue("", 0);
        rulesDue("   ", 0);
        rulesDue("hand draw;", 1);
        rulesDue("  child rest ;general rub;mother draw;rubber rest;dog rub ; ", 5);
        rulesDue("hand if 1=1draw;", 1);
        rulesDue("hand if(dusk<3)or not(at>2)and facing=0 rest;", 1);
        rulesDue("hand if not not not chalk=number rub;", 1);
        rulesDue("hand if (((at=0009))) rub;", 1);
        rulesDue("hand if ((at=1) or (((at=2) and (at=3)))) rub;", -121);
        rulesDue("hand if 9999>0 rub;", 1);
        rulesDue("dog rub;dog rub;dog rub;dog rub;dog rub;dog rub;dog rub;dog rub;", 8);
        ChalkWars x = new ChalkWars();
        due("two", rulesOf(x, "hand rest;hand rub;"), 2);
        due("many", x.many(1), 2);
        due("in place of all", rulesOf(x, "dog rest;"), 1);
        due("many then", x.many(1), 1);
        due("a fault", rulesOf(x, "dog"), -103);
        due("changes nothing", x.many(1), 1);
        due("but the tape", x.many(5), 0);
        due("none", x.rules(), 0);
        due("none are left", x.many(1), 0);
    }

    private static void rulesFault() {
        rulesDue("draw", -100);
        rulesDue(" ;", -101);
        rulesDue("hand", -104);
        rulesDue("hand  ", -106);
        rulesDue("hand hand draw;", -105);
        rulesDue("handdraw;", -100);
        rulesDue("Hand draw;", -100);
        rulesDue("hand\tdraw;", -104);
        rulesDue("hand draw", -109);
        rulesDue("hand draw rest;", -110);
        rulesDue("hand draw;;", -110);
        rulesDue("hand 5 draw;", -105);
        rulesDue("hand if draw;", -108);
        rulesDue("hand if 1 draw;", -110);
        rulesDue("hand if 1=draw;", -110);
        rulesDue("hand if 1==1 draw;", -110);
        rulesDue("hand if 1=1=1 draw;", -111);
        rulesDue("hand if 1=1 and draw;", -116);
        rulesDue("hand if 1=1 or draw;", -115);
        rulesDue("hand if 1(1 draw;", -109);
        rulesDue("hand if >1=1 draw;", -108);
        rulesDue("hand if (1=1; draw;", -112);
        rulesDue("hand draw)", -109);
        rulesDue("handz draw;", -100);
        rulesDue("ahand draw;", -100);
        rulesDue("han draw;", -100);
        rulesDue(" ".repeat(199) + ";", -299);
        rulesDue("hand draw;" + " ".repeat(190), 1);
        ChalkWars x = new ChalkWars();
        rulesOf(x, "hand if 12345");
        due("what stood on the tape is gone: numbers", rulesOf(x, "hand if 1234"), -112);
        rulesOf(x, "hand drawn");
        due("what stood on the tape is gone: names", rulesOf(x, "hand draw"), -109);
        rulesDue("hand if 1=1 or and 2=2 draw;", -115);
        rulesDue("hand if 1=1 not 2=2 draw;", -112);
        rulesDue("hand if not draw;", -112);
        rulesDue("hand if 12345=1 draw;", -108);
        rulesDue("hand if 1=00001 draw;", -110);
        rulesDue("hand if at3=1 draw;", -110);
        rulesDue("hand if (1=1 draw;", -113);
        rulesDue("hand if 1=1) draw;", -111);
        rulesDue("hand if ((((1=1)))) draw;", -111);
        rulesDue("hand if (((1=1))) draw;", 1);
        rulesDue("hand if ( (1=1) or ( not ( 1=1 ) and (2=2", -141);
        rulesDue("hand if () draw;", -109);
        rulesDue("hand if dusk<3 if at=1 draw;", -115);
        rulesDue("hand if -1<3 draw;", -108);
        rulesDue("hand if score<3 draw;", -108);
        rulesDue("hand if 1=1;", -111);
        rulesDue("hand draw;" + (char) 233, -110);
        rulesDue("hand draw;" + (char) 0, -110);
        rulesDue("dog rub;dog rub;dog rub;dog rub;dog rub;dog rub;dog rub;dog rub;  dog", -166);
        rulesDue("dog rub;dog rub;dog rub;dog rub;dog rub;dog rub;dog rub;dog rub;9", -164);
    }

    private static int willBy(String text, int kind, int at, int facing, int chalk) {
        ChalkWars x = new ChalkWars();
        x.hand(kind, at, facing, chalk);
        rulesOf(x, text);
        return x.handOf(0, 8);
    }

    private static void rulesTell() {
        due("none tells", willBy("dog rub;", 1, 5, 0, 3), 0);
        due("its own", willBy("child rub;", 1, 5, 0, 3), 2);
        due("above", willBy("hand rest;", 5, 5, 0, 3), 1);
        due("mother under general", willBy("general rest;", 3, 5, 0, 3), 1);
        due("dog under rubber", willBy("rubber rest;", 5, 5, 0, 3), 1);
        due("general not under mother", willBy("mother rest;", 2, 5, 0, 3), 0);
        due("rubber not under dog", willBy("dog rest;", 4, 5, 0, 3), 0);
        due("mother not under rubber", willBy("rubber rest;", 3, 5, 0, 3), 0);
        due("the first", willBy("general rub;child rub;hand rest;child draw;", 1, 5, 0, 3), 2);
        due("the first that holds", willBy("child if at=4 rub;hand if at=5 rest;hand rub;", 1, 5, 0, 3), 1);
        String[] holds = {"dusk=0", "at=5", "facing=2", "chalk=3", "number=0", "at>facing", "facing<chalk", "not at=4",
            "not not at=5", "at=4 or at=5", "at=5 or at=4", "at=5 and chalk=3", "at=5 or at=5 and at=4", "at=4 and at=5 or at=5",
            "not (at=5 and at=4)", "not at=4 and at=5", "(at=4 or at=5) and (chalk=3)", "0003=3", "9999>9998",
            "at=5 and at=5 and at=5", "at=4 or at=4 or at=5", "not (at=4 or not (chalk=3))",
            "not 0<0", "at=5 and not 0<0", "0=0", "0<1", "12>9", "99<100", "1000>999", "0012=12", "1234=1234", "not 1234=1233"};
        for (String condition : holds) due(condition, willBy("child if " + condition + " rub;", 1, 5, 2, 3), 2);
        String[] doesNot = {"dusk>0", "at<5", "at>5", "chalk<3", "at=4 or at=6", "at=5 and at=4", "not at=5", "not not at=4",
            "at=5 and at=4 or at=4", "not (at=5)", "not at=5 or at=4", "(at=4 or at=5) and at=4", "at=5 and at=5 and at=4"};
        for (String condition : doesNot) due(condition, willBy("child if " + condition + " rub;", 1, 5, 2, 3), 0);
        due("at 11", willBy("child if at=11 rub;", 1, 11, 0, 3), 2);
        due("at 10", willBy("child if at=11 rub;", 1, 10, 0, 3), 0);
        due("the second by what it asks alone", willBy("child if at=5 and at=4 rest;child if chalk=4 or facing=2 rub;", 1, 5, 2, 3), 2);
        ChalkWars none = new ChalkWars();
        rulesOf(none, "hand rub;");
        none.set(2, 131071);
        due("no hand is told: nothing is rubbed", none.dusk(), 11);
        none.sheet(0, 0, 1);
        none.hand(1, 0, 0, 9);
        due("nor by none of one", none.goAll(0, 0, 1), 11);
        due("lines", none.state(6), 131071);
        ChalkWars x = new ChalkWars();
        x.hand(1, 5, 0, 9);
        x.hand(1, 9, 0, 9);
        rulesOf(x, "hand if number=1 and dusk>1 rest;hand if dusk=1 rub;");
        int[] first = {0, 2, 0}, second = {0, 2, 1};
        for (int i = 0; i < 3; i++) {
            due("will of 0 at dusk " + i, x.handOf(0, 8), first[i]);
            due("will of 1 at dusk " + i, x.handOf(1, 8), second[i]);
            x.dusk();
        }
    }

    private static void duskWalks() {
        int[] turns = {2, 1, 3, 1, 2};
        for (int kind = 1; kind <= 5; kind++) {
            ChalkWars x = new ChalkWars();
            x.hand(kind, 5, 0, 0);
            x.dusk();
            due("walks right", x.handOf(0, 1), 6);
            due("goes on facing", x.handOf(0, 2), 0);
            x.dusk();
            due("walks on", x.handOf(0, 1), 7);
            x.dusk();
            due("stays at the wall", x.handOf(0, 1), 7);
            due("turns", x.handOf(0, 2), turns[kind - 1]);
            ChalkWars y = new ChalkWars();
            y.hand(kind, 5, 3, 0);
            y.set(2, 1 << 10);
            y.dusk();
            due("at a line", y.handOf(0, 1), kind == 5 ? 1 : 5);
            due("turns at a line", y.handOf(0, 2), kind == 5 ? 3 : (3 + turns[kind - 1]) % 4);
        }
        int[] to = {6, 9, 4, 1};
        for (int facing = 0; facing < 4; facing++) {
            ChalkWars x = new ChalkWars();
            x.hand(4, 5, facing, 0);
            x.dusk();
            due("walks facing " + facing, x.handOf(0, 1), to[facing]);
        }
    }

    private static void duskDraws() {
        ChalkWars x = new ChalkWars();
        x.hand(1, 0, 3, 3);
        due("dusk 0", x.dusk(), 0);
        due("turned by 2", x.handOf(0, 2), 1);
        due("drawn where it faces, nothing behind", x.state(6), 1 << 9);
        due("chalk is gone", x.handOf(0, 3), 1);
        due("dusk 1", x.dusk(), 0);
        due("turned back by its line", x.handOf(0, 2), 3);
        due("too little chalk", x.handOf(0, 3), 1);
        due("no more lines", x.state(6), 1 << 9);
        ChalkWars y = new ChalkWars();
        y.hand(3, 4, 0, 9);
        y.hand(1, 9, 0, 9);
        y.hand(2, 11, 1, 9);
        y.dusk();
        due("mother at 5 draws up and down", y.state(6), 1 << 10 | 1 << 14);
        due("who was not told keeps chalk", y.handOf(1, 3), 9);
        y.dusk();
        due("the next in turn draws", y.handOf(1, 3), 7);
        due("child at 11 draws before and behind", y.state(6), 1 << 10 | 1 << 14 | 1 << 8);
        y.dusk();
        due("the third", y.handOf(2, 3), 6);
        y.dusk();
        due("the first again", y.handOf(0, 3), 5);
        ChalkWars none = new ChalkWars();
        none.set(0, 2);
        none.set(2, 513);
        due("no hands", none.dusk(), 11);
        due("no hands still", none.dusk(), 11);
        due("score of both", none.state(2), 22);
        due("over", none.dusk(), STATE);
        due("dusk stays", none.state(0), 2);
        ChalkWars rests = new ChalkWars();
        rests.hand(2, 5, 0, 9);
        rulesOf(rests, "general rest;");
        rests.dusk();
        due("rests", rests.state(6), 0);
        due("rests for nothing", rests.handOf(0, 3), 9);
    }

    private static void duskRubs() {
        ChalkWars x = new ChalkWars();
        x.hand(4, 5, 0, 9);
        x.set(2, 131071 ^ 1 << 4);
        due("rubber at 6", x.dusk(), 11);
        due("rubs where it faces", x.state(6), 131071 ^ 1 << 4 ^ 1 << 5);
        due("for nothing", x.handOf(0, 3), 9);
        ChalkWars y = new ChalkWars();
        y.hand(5, 5, 0, 0);
        y.set(2, 131071);
        due("dog at 6", y.dusk(), 11);
        due("rubs all round", y.state(6), 131071 ^ 1 << 4 ^ 1 << 5 ^ 1 << 11 ^ 1 << 15);
        ChalkWars z = new ChalkWars();
        z.hand(2, 5, 0, 0);
        z.set(2, 131071 ^ 1 << 4);
        rulesOf(z, "hand rub;");
        z.dusk();
        due("a general told to rub", z.state(6), 131071 ^ 1 << 4 ^ 1 << 5 ^ 1 << 11 ^ 1 << 15);
        ChalkWars r = new ChalkWars();
        r.hand(5, 5, 0, 0);
        r.set(2, 131071);
        rulesOf(r, "rubber if at=6 rest;");
        r.dusk();
        due("a dog that rests, by where it is then", r.state(6), 131071);
    }

    private static void duskRains() {
        ChalkWars x = new ChalkWars();
        x.set(2, 513 | 1 << 7);
        x.set(3, 512 | 1 << 8);
        x.set(4, 2 | 1 << 15);
        due("no rain", x.dusk(), 11);
        due("rain", x.dusk(), 0);
        due("only what is dry is left", x.state(6), 512);
        ChalkWars y = besieged();
        y.set(4, 2);
        y.dusk();
        due("drawn ahead of the rain", y.dusk(), 0);
        due("gone", y.state(6), 0);
        due("chalk, too", y.handOf(0, 3), 3);
        ChalkWars z = new ChalkWars();
        z.set(0, 16);
        z.set(4, 1 << 15);
        z.set(2, 513);
        for (int i = 0; i < 15; i++) due("dusk " + i, z.dusk(), 11);
        due("rain in the last", z.dusk(), 0);
        due("all of it", z.state(2), 165);
    }

    private static void onAndWhen() {
        ChalkWars x = besieged();
        int[] on = {0, 0, 11, 22, 33};
        for (int n = 0; n < on.length; n++) due("on " + n, x.on(n), on[n]);
        due("on 12", x.on(12), 121);
        due("on 16", x.on(16), 121);
        due("on -1", x.on(-1), BAD);
        due("on 17", x.on(17), BAD);
        due("when 5", x.when(5), 1);
        due("when home", x.when(0), NONE);
        due("when -1", x.when(-1), BAD);
        due("when 12", x.when(12), BAD);
        due("asking changes nothing", x.state(0), 0);
        due("nor hands", x.handOf(0, 1), 1);
        ChalkWars late = new ChalkWars();
        late.hand(1, 0, 0, 9);
        late.set(2, 1 << 1 | 1 << 9 | 1 << 10);
        rulesOf(late, "hand if dusk<15 rest;");
        late.set(0, 15);
        due("not by the fifteenth", late.when(1), NONE);
        late.set(0, 16);
        due("by the sixteenth", late.when(1), 15);
        x.set(0, 1);
        due("when, too late", x.when(5), NONE);
        x.set(0, 12);
        x.dusk();
        due("when from dusk 1", x.when(11), 1);
        due("on 1 from dusk 1", x.on(1), 11);
        x.dusk();
        due("when it is so now", x.when(11), NONE);
        x.set(0, 2);
        due("on, over", x.on(5), 0);
    }

    /** A mother that walks the upper row's length and draws below it. */
    private static ChalkWars fenced() {
        ChalkWars x = new ChalkWars();
        x.hand(3, 3, 3, 9);
        x.set(0, 4);
        return x;
    }

    private static void chalkForAndFacingFor() {
        due("four draws", fenced().chalkFor(0), 8);
        due("and what they are worth", fenced().on(4), 8);
        ChalkWars nine = fenced();
        rulesOf(nine, "mother if dusk=0 and chalk<9 rest;");
        due("no less than 9", nine.chalkFor(0), 9);
        ChalkWars ten = fenced();
        rulesOf(ten, "mother if dusk=0 and chalk<10 rest;");
        due("no more than 9", ten.chalkFor(0), 0);
        ChalkWars x = besieged();
        due("chalk", x.chalkFor(0), 6);
        due("facing", x.facingFor(0), 2);
        due("chalk stays", x.handOf(0, 3), 9);
        due("facing stays", x.handOf(0, 2), 2);
        due("chalk of none", x.chalkFor(1), BAD);
        due("chalk of -1", x.chalkFor(-1), BAD);
        due("facing of none", x.facingFor(1), BAD);
        due("facing of -1", x.facingFor(-1), BAD);
        x.change(0, 3, 2);
        due("facing without chalk: all are one", x.facingFor(0), 0);
        x.set(0, 1);
        x.dusk();
        due("chalk when over", x.chalkFor(0), 0);
        due("facing when over", x.facingFor(0), 0);
        ChalkWars all = new ChalkWars();
        all.hand(2, 1, 2, 1);
        all.set(0, 7);
        rulesOf(all, "general if dusk<2 draw;hand if chalk>2 rub;hand rest;");
        due("with 9 chalk it rubs its own lines", all.chalkFor(0), 6);
    }

    private static void cut() {
        ChalkWars x = new ChalkWars();
        due("cut -1", x.cut(-1, 0), BAD);
        due("cut 12", x.cut(12, 0), BAD);
        due("cut what -1", x.cut(11, -1), BAD);
        due("cut what 2", x.cut(11, 2), BAD);
        due("cut home, what 2", x.cut(0, 2), BAD);
        due("cut home", x.cut(0, 0), NONE);
        for (int cell = 1; cell < 12; cell++) {
            due("cut of " + cell, x.cut(cell, 0), 2);
            due("cut set of " + cell, x.cut(cell, 1), 513);
        }
        x.set(1, 5);
        due("from the middle", x.cut(6, 0), 3);
        due("between the columns", x.cut(6, 1), 1 << 1 | 1 << 4 | 1 << 7);
        due("an end of the row", x.cut(4, 0), 3);
        due("the least of two: the column, not round it", x.cut(4, 1), 1 << 0 | 1 << 3 | 1 << 6);
        x.set(2, 1 << 9);
        due("now the least of two sets of two", x.cut(4, 1), 1 << 3 | 1 << 6);
        x.set(2, 0);
        due("a corner", x.cut(11, 1), 1 << 8 | 1 << 16);
        due("cut of the first", x.cut(0, 1), 513);
        due("cut home now", x.cut(5, 0), NONE);
        x.set(2, 1 << 8);
        due("one line there already", x.cut(11, 0), 1);
        due("the other one", x.cut(11, 1), 1 << 16);
        x.set(2, 1 << 8 | 1 << 16);
        due("shut already", x.cut(11, 0), 0);
        due("by no more", x.cut(11, 1), 0);
        due("asking draws nothing", x.state(6), 1 << 8 | 1 << 16);
    }

    private static void way() {
        ChalkWars x = new ChalkWars();
        for (int a = 0; a < 12; a++) {
            for (int b = 0; b < 12; b++) {
                due("way " + a + " " + b, x.way(a, b), Math.abs(a / 4 - b / 4) + Math.abs(a % 4 - b % 4));
            }
        }
        due("way -1", x.way(-1, 0), BAD);
        due("way 12", x.way(12, 0), BAD);
        due("way to -1", x.way(0, -1), BAD);
        due("way to 12", x.way(0, 12), BAD);
        x.set(2, 1);
        due("round a line", x.way(0, 1), 3);
        x.set(2, 1 << 9 | 1 << 10 | 1 << 11 | 1 << 14 | 1 << 15 | 1 << 16);
        due("all the way", x.way(0, 11), 11);
        due("and back", x.way(11, 0), 11);
        x.set(2, 131071);
        due("none", x.way(0, 1), NONE);
        due("to itself", x.way(7, 7), 0);
    }

    private static void bridges() {
        ChalkWars x = new ChalkWars();
        due("none at first", x.bridges(), 0);
        x.set(2, 1);
        due("the other way out", x.bridges(), 512);
        x.set(2, 1 << 9 | 1 << 10 | 1 << 11 | 1 << 14 | 1 << 15 | 1 << 16);
        due("all of a long way", x.bridges(), 511 | 1 << 12 | 1 << 13);
        x.set(2, 513);
        due("nothing is left to shut", x.bridges(), 0);
        x.set(1, 5);
        due("a shut cell is shut already", x.bridges(), 0);
        x.set(2, 1 << 8);
        due("a corner", x.bridges(), 1 << 16);
    }

    private static void plans() {
        ChalkWars x = besieged();
        int[] best = {0, 0, 11, 22, 33}, ways = {1, 2, 1, 2, 4};
        for (int n = 0; n <= 4; n++) {
            due("best " + n, x.best(n), best[n]);
            due("ways " + n, x.ways(n), ways[n]);
        }
        due("best -1", x.best(-1), BAD);
        due("best 5", x.best(5), BAD);
        due("ways -1", x.ways(-1), BAD);
        due("ways 5", x.ways(5), BAD);
        int[][] first = {{NONE, NONE, NONE, NONE}, {0, NONE, NONE, NONE}, {1, 1, NONE, NONE}, {1, 1, 0, NONE}, {1, 1, 0, 0}};
        for (int n = 0; n <= 4; n++) for (int i = 0; i < 4; i++) due("ith " + n + " " + i, x.ith(n, i), first[n][i]);
        due("ith -1", x.ith(-1, 0), BAD);
        due("ith 5", x.ith(5, 0), BAD);
        due("ith 4 -1", x.ith(4, -1), BAD);
        due("ith 4 4", x.ith(4, 4), BAD);
        due("asking changes nothing", x.state(0) + x.state(6) + x.state(2), 0);
        due("nor hands", x.handOf(0, 3), 9);
        ChalkWars six = new ChalkWars();
        for (int i = 0; i < 6; i++) six.hand(4, i, 0, 0);
        due("all plans of six", six.ways(4), 2401);
        due("the first of all", six.ith(4, 3), 0);
    }

    private static void plansCutShort() {
        ChalkWars x = besieged();
        x.set(0, 2);
        due("best of two", x.best(4), 11);
        due("ways of two", x.ways(4), 1);
        due("second", x.ith(4, 1), 1);
        due("no third", x.ith(4, 2), NONE);
        x.set(0, 1);
        due("ways of one", x.ways(4), 2);
        due("siege of one", x.siege(4, 2), NONE);
        x.dusk();
        due("best when over", x.best(4), 0);
        due("ways when over", x.ways(4), 1);
        due("ith when over", x.ith(4, 0), NONE);
        due("siege of none when over", x.siege(4, 0), 0);
        due("siege when over", x.siege(4, 2), NONE);
        due("bars when over", x.bars(4, 6), 1);
        due("rows when over", x.prove(4), 0);
        x.set(2, 513);
        due("siege when it is so already", x.siege(4, 4094), 0);
        due("bars when it is so already", x.bars(0, 4094), NONE);
    }

    private static void siegeAndBars() {
        due("siege by four", fenced().siege(4, 4080), 4);
        due("siege by three", fenced().siege(3, 16), NONE);
        due("bars by three", fenced().bars(3, 4080), 4);
        due("bars by four", fenced().bars(4, 4095), 0);
        ChalkWars x = besieged();
        due("siege of none", x.siege(0, 0), 0);
        due("siege by one", x.siege(1, 2), NONE);
        due("siege by two", x.siege(2, 2), 2);
        due("siege of all", x.siege(2, 4094), 2);
        due("siege by three, all in one draw", x.siege(3, 4094), 1);
        due("home never", x.siege(4, 1), NONE);
        due("home and others", x.siege(4, 4095), NONE);
        due("siege -1", x.siege(-1, 0), BAD);
        due("siege 5", x.siege(5, 0), BAD);
        due("siege set -1", x.siege(1, -1), BAD);
        due("siege set 4096", x.siege(1, 4096), BAD);
        due("bars of none", x.bars(2, 0), NONE);
        due("bars by one", x.bars(1, 6), 1);
        due("bars by one, the least", x.bars(1, 2048 | 64), 6);
        due("bars by two", x.bars(2, 4094), NONE);
        due("bars home", x.bars(4, 4095), 0);
        due("bars -1", x.bars(-1, 0), BAD);
        due("bars 5", x.bars(5, 0), BAD);
        due("bars set -1", x.bars(1, -1), BAD);
        due("bars set 4096", x.bars(1, 4096), BAD);
        ChalkWars y = new ChalkWars();
        y.set(2, 513);
        y.set(4, 2);
        due("behind one", y.siege(1, 2), 0);
        due("behind the second, in which it rains", y.siege(2, 2), NONE);
        due("no bar behind one", y.bars(1, 2), NONE);
        due("a bar behind two", y.bars(2, 2), 1);
    }

    private static void game() {
        ChalkWars x = besieged();
        int[] game = {0, 0, 11, 22}, play = {0, 0, 0, 0};
        for (int n = 1; n <= 4; n++) {
            due("play " + n, x.play(n), play[n - 1]);
            due("game " + n, x.game(n), game[n - 1]);
        }
        due("game 0", x.game(0), BAD);
        due("game 5", x.game(5), BAD);
        due("play 0", x.play(0), BAD);
        due("play 5", x.play(5), BAD);
        x.dusk();
        due("who begins draws the second", x.play(1), 1);
        due("that is worth", x.game(1), 11);
        due("and it stays", x.game(2), 22);
        x.hand(5, 5, 3, 0);
        due("the other one has a dog", x.game(2), 11);
        due("the first one draws", x.play(2), 1);
        due("the best without the other one", x.best(2), 22);
        due("asking changes nothing", x.handOf(1, 1), 5);
    }

    private static void gameOver() {
        ChalkWars x = besieged();
        x.set(0, 3);
        due("no more than three", x.game(4), 11);
        for (int i = 0; i < 3; i++) x.dusk();
        due("game when over", x.game(1), 0);
        due("play when over", x.play(1), NONE);
        due("play 5 when over", x.play(5), BAD);
        due("game 5 when over", x.game(5), BAD);
    }

    private static void reports() {
        ChalkWars x = new ChalkWars();
        due("forget none", x.forget(), 0);
        due("k -1", x.report(-1, 0, 0), BAD);
        due("k 16", x.report(16, 0, 0), BAD);
        due("least -1", x.report(0, -1, 0), BAD);
        due("least 12", x.report(0, 12, 12), BAD);
        due("most 12", x.report(0, 0, 12), BAD);
        due("most below least", x.report(0, 5, 4), BAD);
        due("none came", x.many(3), 0);
        for (int i = 0; i < 6; i++) due("report " + i, x.report(15, 0, 11), i);
        due("full", x.report(0, 0, 0), FULL);
        due("full and bad", x.report(0, 5, 4), BAD);
        due("six", x.many(3), 6);
        due("anew", x.anew(), 0);
        due("six still", x.many(3), 6);
        due("forget", x.forget(), 6);
        due("none", x.many(3), 0);
        due("numbers begin again", x.report(0, 5, 5), 0);
    }

    private static void spanAndLiar() {
        ChalkWars x = new ChalkWars();
        due("all fit", x.span(0), 240);
        due("least kind", x.span(1), 1);
        due("least cell", x.span(2), 0);
        due("least facing", x.span(3), 0);
        due("liar of none", x.liar(), NONE);
        due("span -1", x.span(-1), BAD);
        due("span 4", x.span(4), BAD);
        x.set(2, 131071);
        x.report(0, 5, 5);
        due("from 5", x.span(0), 20);
        due("cell 5", x.span(2), 5);
        x.report(1, 6, 6);
        due("lines count nothing", x.span(0), 5);
        due("facing 0", x.span(3), 0);
        due("no liar", x.liar(), NONE);
        x.report(2, 4, 4);
        due("none", x.span(0), 0);
        for (int what = 1; what <= 3; what++) due("none to tell", x.span(what), NONE);
        due("the second lies", x.liar(), 1);
        x.forget();
        x.report(0, 11, 11);
        x.report(1, 0, 0);
        x.report(1, 11, 11);
        x.report(3, 4, 4);
        due("two of them lie", x.liar(), NONE);
        x.forget();
        x.report(0, 3, 3);
        x.report(3, 0, 0);
        x.report(4, 1, 1);
        due("turned by 2 at the wall takes a dusk of its own", x.span(0), 0);
        x.forget();
        x.report(3, 0, 0);
        x.report(4, 0, 0);
        x.report(5, 1, 1);
        due("from 3: by 2 at once", x.span(1), 1);
        due("from 3", x.span(2), 3);
        due("facing back", x.span(3), 2);
        due("a child and a dog from 3, generals and rubbers from 2, 5, 8", x.span(0), 8);
        x.report(6, 1, 1);
        due("then it walks on", x.span(0), 0);
        due("but for that it came there so soon, it could have been", x.liar(), 2);
    }

    private static void seedAndLot() {
        ChalkWars x = new ChalkWars();
        due("seed", x.seed(7), 1);
        due("seed again", x.seed(1), 7);
        x.hand(1, 5, 0, 9);
        x.set(0, 4);
        due("lot 0: no one", x.lot(), 0);
        due("walked", x.handOf(0, 1), 6);
        due("not told", x.handOf(0, 3), 9);
        due("z", x.seed(1103527590), 1103527590);
        x.lot();
        due("lot 1: no one", x.handOf(0, 3), 9);
        x.lot();
        due("lot 2: the hand", x.handOf(0, 3), 7);
        due("z then", x.seed(662824084), 662824084);
        x.lot();
        int z = x.seed(5);
        due("over", x.lot(), STATE);
        due("z stays", x.seed(5), 5);
        due("z went on by the document's numbers", z, 662824084 * 1103515245 + 12345);
        ChalkWars y = new ChalkWars();
        y.seed(-1);
        y.set(2, 513);
        due("lot without hands", y.lot(), 11);
        due("z wraps", y.seed(0), -1103515245 + 12345);
        due("score", y.state(2), 11);
    }

    private static void times() {
        ChalkWars x = new ChalkWars();
        due("n 0", x.times(0, 0), BAD);
        due("n 41", x.times(41, 0), BAD);
        due("v -1", x.times(1, -1), BAD);
        due("v 1000", x.times(1, 1000), BAD);
        x.set(2, 513);
        due("all are worth 132", x.times(40, 132), 40);
        due("none is worth 133", x.times(40, 133), 0);
        due("999", x.times(40, 999), 0);
        due("one time", x.times(1, 132), 1);
        x.set(0, 16);
        due("all of sixteen dusks", x.times(3, 176), 3);
        due("and no more", x.times(3, 177), 0);
        x.set(0, 1);
        x.dusk();
        due("over: worth 0", x.times(7, 0), 7);
        due("over: not 1", x.times(7, 1), 0);
        ChalkWars y = besieged();
        y.set(0, 3);
        y.seed(1);
        int enough = 0;
        int z = 1;
        for (int i = 0; i < 40; i++) {
            boolean[] told = new boolean[3];
            for (int k = 0; k < 3; k++) {
                z = z * 1103515245 + 12345;
                told[k] = (z >>> 16) % 2 == 1;
            }
            if (told[2] || told[0] && told[1]) enough++;
        }
        due("times by lot", y.times(40, 11), enough);
        due("z is as it was", y.seed(1), 1);
        due("all is as it was", y.state(0) + y.state(6) + y.state(2), 0);
        due("hands, too", y.handOf(0, 1), 1);
    }

    private static void rows() {
        ChalkWars x = besieged();
        due("prove -1", x.prove(-1), BAD);
        due("prove 5", x.prove(5), BAD);
        due("prove 3", x.prove(3), 3);
        int[][] rows = {{1, 0, 0}, {1, 11, 4094}, {0, 11, 4094}};
        for (int k = 0; k < 3; k++) for (int what = 0; what < 3; what++) due("row " + k + " " + what, x.row(k, what), rows[k][what]);
        due("row -1", x.row(-1, 0), -9);
        due("row 3", x.row(3, 0), -9);
        due("what -1", x.row(0, -1), -9);
        due("what 3", x.row(0, 3), -9);
        due("alter -1", x.alterRow(-1, 0, 1), -9);
        due("alter 3", x.alterRow(3, 0, 1), -9);
        due("alter what -1", x.alterRow(0, -1, 1), -9);
        due("alter what 3", x.alterRow(0, 3, 1), -9);
        due("alter", x.alterRow(2, 1, -77), 11);
        due("altered", x.row(2, 1), -77);
        due("others stay", x.row(1, 1), 11);
        due("a bad proof leaves them", x.prove(9), BAD);
        due("rows", x.many(4), 3);
        due("nothing goes by", x.state(0), 0);
        due("prove 0", x.prove(0), 0);
        due("no rows", x.row(0, 0), -9);
        due("many", x.many(4), 0);
    }

    private static void judge() {
        ChalkWars x = besieged();
        x.prove(3);
        due("right", x.judge(), 0);
        for (int k = 0; k < 3; k++) {
            for (int what = 0; what < 3; what++) {
                int was = x.alterRow(k, what, 100);
                due("wrong " + k + " " + what, x.judge(), k + 1);
                x.alterRow(k, what, -1);
                due("below 0 " + k + " " + what, x.judge(), k + 1);
                x.alterRow(k, what, was);
                due("right again", x.judge(), 0);
            }
        }
        x.alterRow(2, 0, 1);
        due("another act that does as well", x.judge(), 0);
        x.alterRow(2, 0, 2);
        due("an act of no hand", x.judge(), 3);
        x.hand(4, 11, 0, 0);
        due("now there is one", x.judge(), 0);
        x.alterRow(0, 0, 0);
        due("an act that does not do so: its own row is as told, the next one is not", x.judge(), 2);
        x.alterRow(0, 0, 1);
        x.set(0, 2);
        due("over ahead of the third", x.judge(), 3);
        x.dusk();
        due("from how it is now", x.judge(), 1);
    }

    private static void sheets() {
        ChalkWars x = new ChalkWars();
        due("sheet -1", x.sheet(-1, 0, 1), BAD);
        due("sheet 4", x.sheet(4, 0, 1), BAD);
        due("sort -2", x.sheet(0, -2, 1), BAD);
        due("sort 5", x.sheet(0, 5, 1), BAD);
        due("41", x.sheet(0, 0, 41), BAD);
        due("below 0", x.sheet(0, 0, -1), -14);
        due("sort 5 first", x.sheet(0, 5, -1), BAD);
        due("missing", x.sheet(0, -1, 99), 1);
        due("missing below 0", x.sheet(0, -1, -99), 1);
        due("write missing", x.write(0, 0, 1), -11);
        due("write sheet 4", x.write(4, 0, 1), BAD);
        due("write sheet -1", x.write(-1, 0, 1), BAD);
        due("40", x.sheet(0, 2, 40), 1);
        for (int i = 0; i < 40; i++) due("write", x.write(0, i, 1000 + i), 1);
        for (int i = 0; i < 40; i++) due("item", x.item(0, 2, i), 1000 + i);
        due("write 40", x.write(0, 40, 1), -12);
        due("write -1", x.write(0, -1, 1), -12);
        due("item 40", x.item(0, 2, 40), -12);
        due("item -1", x.item(0, 2, -1), -12);
        for (int sort = 0; sort < 5; sort++) due("taken for " + sort, x.item(0, sort, 50), sort == 2 ? -12 : -13);
        due("item sheet 4", x.item(4, 0, 0), BAD);
        due("item sheet -1", x.item(-1, 0, 0), BAD);
        due("item sort -1", x.item(0, -1, 0), BAD);
        due("item sort 5", x.item(0, 5, 0), BAD);
        due("a row anew", x.sheet(0, 2, 3), 1);
        for (int i = 0; i < 3; i++) due("all 0", x.item(0, 2, i), 0);
        due("no more than 3", x.item(0, 2, 3), -12);
        due("missing again", x.sheet(0, -1, 3), 1);
        due("item missing", x.item(0, 1, 0), -11);
        due("of none", x.sheet(1, 1, 0), 1);
        due("item of none", x.item(1, 1, 0), -12);
        due("others are missing", x.item(2, 1, 0), -11);
    }

    private static void narrowing() {
        ChalkWars x = new ChalkWars();
        int[] told = {0, 1, -1, 127, 128, 255, 256, 32767, 32768, 65536, 123456789, Integer.MIN_VALUE, Integer.MAX_VALUE};
        for (int sort = 0; sort < 4; sort++) x.sheet(sort, sort, 1);
        for (int v : told) {
            for (int sort = 0; sort < 4; sort++) x.write(sort, 0, v);
            due("byte " + v, x.item(0, 0, 0), (byte) v);
            due("short " + v, x.item(1, 1, 0), (short) v);
            due("int " + v, x.item(2, 2, 0), v);
            due("long " + v, x.item(3, 3, 0), v);
        }
        x.sheet(0, 4, 2);
        for (int v : told) {
            x.write(0, 1, v);
            due("boolean " + v, x.item(0, 4, 1), v == 0 ? 0 : 1);
        }
    }

    private static void goAll() {
        ChalkWars x = besieged();
        x.sheet(0, 0, 6);
        int[] acts = {1, 2, -1, 1, 0, 1};
        for (int i = 0; i < 6; i++) x.write(0, i, acts[i]);
        x.sheet(1, 1, 6);
        due("sheet 4", x.goAll(4, 0, 1), BAD);
        due("sheet -1", x.goAll(-1, 0, 1), BAD);
        due("n -1", x.goAll(0, 0, -1), BAD);
        due("n 21", x.goAll(0, 0, 21), BAD);
        due("shorts", x.goAll(1, 0, 1), -13);
        due("missing", x.goAll(2, 0, 1), -11);
        due("none from outside", x.goAll(0, 99, 0), 0);
        due("from -1", x.goAll(0, -1, 2), -12);
        due("from far", x.goAll(0, Integer.MAX_VALUE, 2), -12);
        due("nothing went by", x.state(0), 0);
        due("what is no act is left out", x.goAll(0, 0, 5), 22);
        due("three dusks", x.state(0), 3);
        due("outside, but what stood ahead was done", x.goAll(0, 4, 20), -12);
        due("two more", x.state(0), 5);
        due("score", x.state(2), 44);
        x.set(0, 6);
        due("one more and over", x.goAll(0, 3, 3), 11);
        due("at the end", x.state(0), 6);
        due("over, and outside", x.goAll(0, 5, 2), -12);
        due("over", x.goAll(0, 0, 6), 0);
    }

    private static void wouldBe() {
        ChalkWars x = besieged();
        x.sheet(0, 0, 6);
        int[] acts = {1, 1, 0, 1, 2, 1};
        for (int i = 0; i < 6; i++) x.write(0, i, acts[i]);
        x.sheet(1, 4, 6);
        due("sheet 4", x.wouldBe(4, 0, 1), BAD);
        due("sheet -1", x.wouldBe(-1, 0, 1), BAD);
        due("n -1", x.wouldBe(0, 0, -1), BAD);
        due("n 21", x.wouldBe(0, 0, 21), BAD);
        due("booleans", x.wouldBe(1, 0, 1), -13);
        due("missing", x.wouldBe(2, 0, 1), -11);
        due("none from outside", x.wouldBe(0, 99, 0), 0);
        due("four", x.wouldBe(0, 0, 4), 33);
        due("one", x.wouldBe(0, 1, 1), 0);
        due("no act", x.wouldBe(0, 0, 5), STATE);
        due("no act ahead of outside", x.wouldBe(0, 3, 4), STATE);
        due("outside", x.wouldBe(0, 5, 2), -12);
        due("outside at once", x.wouldBe(0, -1, 20), -12);
        due("nothing went by", x.state(0) + x.state(2) + x.state(6), 0);
        due("chalk is there", x.handOf(0, 3), 9);
        x.set(0, 2);
        due("two", x.wouldBe(0, 0, 2), 11);
        due("over ahead of the third", x.wouldBe(0, 0, 3), STATE);
    }

    private static void shelves() {
        ChalkWars x = new ChalkWars();
        for (int kind = 1; kind <= 5; kind++) x.hand(kind, 0, 0, 0);
        due("shelf -1", x.shelf(-1, 2, 0), BAD);
        due("shelf 4", x.shelf(4, 2, 0), BAD);
        due("what -1", x.shelf(0, -1, 0), BAD);
        due("what 3", x.shelf(0, 3, 0), BAD);
        due("hand 5", x.shelf(0, 0, 5), BAD);
        due("hand -1", x.shelf(0, 0, -1), BAD);
        due("sheet 4", x.shelf(0, 1, 4), BAD);
        due("sheet -1", x.shelf(0, 1, -1), BAD);
        due("taken of -1", x.taken(-1, 0), BAD);
        due("taken of 4", x.taken(4, 0), BAD);
        int[] wrong = {-1, 6, 9, 15};
        for (int as : wrong) due("taken as " + as, x.taken(0, as), BAD);
        for (int as = 0; as < 5; as++) due("nothing", x.taken(0, as), -11);
        for (int as = 10; as < 15; as++) due("nothing as a row", x.taken(0, as), -11);
        boolean[][] is = {{true, true, false, false, false, false}, {true, false, true, false, false, false},
            {true, false, true, true, false, false}, {true, false, false, false, true, false},
            {true, false, false, false, true, true}};
        for (int h = 0; h < 5; h++) {
            due("hand on a shelf", x.shelf(1, 0, h), 1);
            for (int as = 0; as <= 5; as++) due("hand " + h + " as " + as, x.taken(1, as), is[h][as] ? h : -13);
            for (int as = 10; as < 15; as++) due("a hand as a row", x.taken(1, as), -13);
        }
        due("remade on the shelf", x.remake(4, 1), 5);
        due("is a child", x.taken(1, 1), 4);
        for (int sort = 0; sort < 5; sort++) {
            x.sheet(2, sort, 7 + sort);
            due("row on a shelf", x.shelf(2, 1, 2), 1);
            for (int as = 10; as < 15; as++) due("row as " + as, x.taken(2, as), as == 10 + sort ? 7 + sort : -13);
            for (int as = 0; as <= 5; as++) due("a row as a hand", x.taken(2, as), -13);
        }
        x.sheet(2, -1, 0);
        due("the row is still held", x.taken(2, 14), 11);
        due("a missing row", x.shelf(2, 1, 2), 1);
        due("is nothing", x.taken(2, 14), -11);
        x.shelf(1, 2, -5);
        due("nothing is held", x.taken(1, 0), -11);
    }

    private static int actBy(int kind, int number, int chalk, int act, int arg) {
        ChalkWars x = withHand(kind, number, chalk);
        return x.act(2, act, arg);
    }

    private static ChalkWars withHand(int kind, int number, int chalk) {
        ChalkWars x = new ChalkWars();
        for (int i = 0; i < number; i++) x.hand(1, 0, 0, 0);
        x.hand(kind, 0, 0, chalk);
        x.shelf(2, 0, number);
        return x;
    }

    private static void acts() {
        int[] xs = {0, 1, 10, -7, 123456789, Integer.MIN_VALUE, Integer.MAX_VALUE};
        int n = 2, a = 7;
        for (int v : xs) {
            due("child chalks " + v, actBy(1, n, a, 0, v), (v ^ 7) * 5);
            due("child shouts " + v, actBy(1, n, a, 1, v), (v ^ 7) * 5 - 7);
            due("child parts " + v, actBy(1, n, a, 2, v), v % 5);
            due("child wins " + v, actBy(1, n, a, 3, v), ((v ^ 7) * 5 - 7) * 2 + v % 5);
            due("general chalks " + v, actBy(2, n, a, 0, v), v ^ 7);
            due("general shouts " + v, actBy(2, n, a, 1, v), (v ^ 7) - 7 ^ v);
            due("general wins " + v, actBy(2, n, a, 3, v), ((v ^ 7) - 7 ^ v) * 2 + v % 5);
            due("mother chalks " + v, actBy(3, n, a, 0, v), v + 2 ^ 7);
            due("mother shouts " + v, actBy(3, n, a, 1, v), (v + 2 ^ 7) - 7 ^ v);
            due("mother wins " + v, actBy(3, n, a, 3, v), ((v + 2 ^ 7) - 7 ^ v) * 2 + v % 5 - ((9 ^ 7) - 7 ^ 7));
            due("mother with less chalk wins " + v, actBy(3, n, 6, 3, v), ((v + 2 ^ 7) - 6 ^ v) * 2 + v % 4 - ((8 ^ 7) - 6 ^ 6));
            due("rubber chalks " + v, actBy(4, n, a, 0, v), v ^ 7);
            due("rubber parts " + v, actBy(4, n, a, 2, v), v % 5 - 2);
            due("rubber wins " + v, actBy(4, n, a, 3, v), ((v ^ 7) - 7) * 2 + v % 5 - 2);
            due("dog shouts " + v, actBy(5, n, a, 1, v), ((v ^ 7) - 7) * 3);
            due("dog parts " + v, actBy(5, n, a, 2, v), v % 5 - 2 ^ (2 ^ 7));
            due("dog wins " + v, actBy(5, n, a, 3, v), ((v ^ 7) - 7) * 6 + (v % 5 - 2 ^ (2 ^ 7)));
        }
        due("less chalk than its number", actBy(1, 5, 1, 2, -11), -3);
        due("parted by -1", actBy(1, 1, 0, 2, Integer.MIN_VALUE), 0);
        ChalkWars x = withHand(1, 0, 3);
        due("shelf -1", x.act(-1, 0, 5), 0);
        due("shelf 4", x.act(4, 0, 5), 0);
        due("act -1", x.act(2, -1, 5), 0);
        due("act 4", x.act(2, 4, 5), 0);
        due("nothing", x.act(0, 0, 5), 0);
        x.sheet(0, 0, 3);
        x.shelf(0, 1, 0);
        due("a row", x.act(0, 0, 5), 0);
        due("chalks as it is now", x.act(2, 1, 0), 22);
        x.change(0, 3, 1);
        due("with other chalk", x.act(2, 1, 0), 24);
        x.remake(0, 2);
        due("of another kind", x.act(2, 1, 1), 4 - 1 ^ 1);
    }

    private static void actsParted() {
        for (int kind = 1; kind <= 5; kind++) {
            due("parts, kind " + kind, actBy(kind, 3, 3, 2, 9), -15);
            due("wins, kind " + kind, actBy(kind, 3, 3, 3, 9), -15);
            due("parts of 0, kind " + kind, actBy(kind, 0, 0, 2, 0), -15);
        }
        due("shouts all the same", actBy(2, 3, 3, 1, 9), (9 ^ 8) - 3 ^ 9);
        ChalkWars dog = withHand(5, 3, 3);
        dog.act(2, 2, 9);
        traceDue("dog parted", dog, 61, 40, 12);
        ChalkWars mother = withHand(3, 3, 3);
        mother.act(2, 3, 9);
        traceDue("mother parted", mother, 51, 13, 30, 11, 50, 10, 12);
        mother.change(3, 3, 4);
        due("another time", mother.act(2, 2, 9), 0);
        traceDue("and nothing is left of it", mother, 12);
    }

    private static void traceDue(String what, ChalkWars x, int... bodies) {
        due(what + ": how many", x.many(6), bodies.length);
        for (int i = 0; i < bodies.length; i++) due(what + ": body " + i, x.trace(i), bodies[i]);
        due(what + ": no more", x.trace(bodies.length), NONE);
        due(what + ": -1", x.trace(-1), NONE);
    }

    private static void trace() {
        int[][][] bodies = {
            {{20, 10}, {11, 20, 10}, {12}, {13, 11, 20, 10, 12}},
            {{10}, {30, 11, 10}, {12}, {13, 30, 11, 10, 12}},
            {{50, 10}, {30, 11, 50, 10}, {12}, {51, 13, 30, 11, 50, 10, 12, 30, 11, 50, 10}},
            {{10}, {11, 10}, {40, 12}, {13, 11, 10, 40, 12}},
            {{10}, {60, 11, 10}, {61, 40, 12, 10}, {13, 60, 11, 10, 61, 40, 12, 10}}};
        for (int kind = 1; kind <= 5; kind++) {
            ChalkWars x = withHand(kind, 2, 7);
            for (int act = 0; act < 4; act++) {
                x.act(2, act, 5);
                traceDue("kind " + kind + " act " + act, x, bodies[kind - 1][act]);
            }
            x.act(3, 0, 5);
            traceDue("nothing", x);
            x.act(2, 0, 5);
            x.act(9, 0, 5);
            traceDue("no shelf", x);
            x.act(2, 0, 5);
            x.act(2, 4, 5);
            traceDue("no act", x);
            x.act(2, 0, 5);
            x.sheet(0, 0, 1);
            x.shelf(3, 1, 0);
            x.act(3, 0, 5);
            traceDue("a row", x);
        }
    }

    private static void many() {
        ChalkWars x = besieged();
        rulesOf(x, "general draw;dog rest;hand rest;");
        x.report(0, 0, 11);
        x.report(0, 0, 11);
        x.prove(4);
        x.feed(0, 5);
        x.shelf(0, 0, 0);
        x.act(0, 3, 1);
        x.set(2, 1 << 8 | 1 << 16);
        int[] many = {1, 3, 1, 2, 4, 5, 5};
        for (int what = 0; what < 7; what++) due("many " + what, x.many(what), many[what]);
        due("many -1", x.many(-1), BAD);
        due("many 7", x.many(7), BAD);
        x.set(2, 513);
        due("many shut", x.many(2), 11);
    }

    private static void kept() {
        ChalkWars x = besieged();
        rulesOf(x, "general draw;");
        x.report(0, 5, 5);
        x.seed(77);
        x.set(0, 9);
        x.set(3, 5);
        x.set(4, 6);
        x.set(1, 1);
        x.set(2, 3);
        x.dusk();
        int lines = x.state(6);
        int score = x.state(2);
        due("keep", x.keep(), 1);
        x.hand(5, 3, 3, 3);
        x.remake(0, 1);
        x.change(0, 1, 9);
        x.change(0, 2, 3);
        x.change(0, 3, 1);
        rulesOf(x, "dog rest;child rest;");
        x.forget();
        x.report(1, 1, 1);
        x.report(1, 1, 1);
        x.seed(5);
        x.set(0, 16);
        x.set(1, 4);
        x.set(2, 99);
        x.set(3, 98);
        x.set(4, 97);
        x.dusk();
        x.prove(2);
        x.feed(0, 3);
        x.sheet(1, 2, 5);
        x.shelf(0, 0, 1);
        x.shelf(1, 0, 0);
        x.act(1, 3, 5);
        due("again", x.again(), 1);
        int[] states = {1, 9, score, 0, x.state(4), 1, lines, 5, 6};
        for (int what = 0; what < 9; what++) due("again, state " + what, x.state(what), states[what]);
        int[] hand = {2, 1, 3, 6};
        for (int what = 0; what < 4; what++) due("again, hand " + what, x.handOf(0, what), hand[what]);
        int[] many = {1, 1, x.many(2), 1, 2, 3, 5};
        for (int what = 0; what < 7; what++) due("again, many " + what, x.many(what), many[what]);
        due("again, report", x.span(2), 5);
        due("again, z", x.seed(6), 77);
        due("again, sheet", x.item(1, 2, 4), 0);
        due("again, shelf", x.taken(1, 2), 0);
        due("a hand that is there no more", x.taken(0, 0), -11);
        due("nor does it act", x.act(0, 0, 1), 0);
        due("nor is anything traced", x.many(6), 0);
        due("another one comes", x.hand(4, 0, 0, 0), 1);
        due("and is held by its number", x.taken(0, 4), 1);
        x.dusk();
        due("what was kept stays", x.again(), 1);
        due("dusk again", x.state(0), 1);
        due("chalk again", x.handOf(0, 3), 6);
        due("z again", x.seed(0), 77);
        ChalkWars scored = new ChalkWars();
        scored.set(2, 513);
        scored.dusk();
        scored.keep();
        scored.dusk();
        due("score then", scored.state(2), 22);
        scored.again();
        due("score again", scored.state(2), 11);
        x.anew();
        due("kept latest", x.keep(), 1);
        x.dusk();
        due("again the latest", x.again(), 1);
        due("dusk of the latest", x.state(0), 0);
    }
}
