/** THE TAPE and THE RULES: section 2 of the document, promises 10 and 11. */
final class RulesBoundaryTests extends Sentences {
    private static final String ONE_RULE = "dog rub;";

    static void all() {
        tape();
        text();
        conditions();
        facts();
        names();
        open();
        fault();
        feedCalls();
        rulesCalls();
    }

    private static void rulesDue(String text, int want) {
        due("rules of \"" + text + "\"", rulesOf(new ChalkWars(), text), want);
    }

    /** HAND 2 of three, a child AT 5 FACING 3 with 7 CHALK in DUSK 1, is told to rub or by no RULE. */
    private static void holds(String condition, boolean is) {
        ChalkWars x = new ChalkWars();
        x.hand(4, 0, 0, 0);
        x.hand(4, 0, 0, 0);
        x.dusk();
        x.hand(1, 5, 3, 7);
        rulesDue("child if " + condition + " rub;", 1);
        rulesOf(x, "child if " + condition + " rub;");
        due(condition, x.handOf(2, 8), is ? 2 : 0);
    }

    private static String times(int n, String text) {
        return text.repeat(n);
    }

    private static void tape() {
        says("======== 2 THE RULES are a TEXT. THE TAPE takes bytes, 200 at most;", x -> {
            for (int i = 1; i <= 25; i++) due("feed", x.feed(0x2020202020202020L, 8), 8 * i);
            due("one more", x.feed(32, 1), FULL);
            due("still", x.many(5), 200);
            due("200 blanks tell no rules", x.rules(), 0);
            rulesDue(times(25, " ") + times(8, ONE_RULE) + times(111, " "), 8);
            due("200 bytes, the last one needed", rulesOf(new ChalkWars(), times(192, " ") + ONE_RULE), 1);
            rulesDue(times(200, ";"), -100);
            rulesDue(times(200, "1"), -100);
            rulesDue(times(200, "z"), -100);
            rulesDue("dog if not not" + times(186, "("), -117);
        });
        says("rules() uses it up.", x -> {
            tell(x, ONE_RULE);
            due("right", x.rules(), 1);
            due("empty", x.many(5), 0);
            tell(x, "dog rub");
            due("wrong", x.rules(), -107);
            due("empty, too", x.many(5), 0);
            due("nothing is left of it", rulesOf(x, ";"), -100);
        });
    }

    private static void text() {
        says("TEXT: { KIND DO ; | KIND if COND DO ; },", x -> {
            rulesDue("", 0);
            rulesDue("hand draw;", 1);
            rulesDue("hand if 1=1 draw;", 1);
            rulesDue("hand draw;hand if 1=1 draw;hand draw;", 3);
            rulesDue("hand if draw;", -108);
            rulesDue("hand 1=1 draw;", -105);
            rulesDue("if 1=1 draw;", -100);
            rulesDue("hand draw if 1=1;", -110);
            rulesDue("hand if 1=1 if;", -112);
            rulesDue("hand if 1=1;", -111);
            rulesDue("hand draw;;", -110);
            rulesDue("hand;", -104);
        });
        says("8 RULES at most.", x -> {
            rulesDue(times(8, ONE_RULE), 8);
            rulesDue(times(9, ONE_RULE), -164);
            rulesDue(times(8, ONE_RULE) + " ", 8);
            due("eight", rulesOf(x, times(8, ONE_RULE)), 8);
            due("eight anew, in place of them", rulesOf(x, times(8, ONE_RULE)), 8);
        });
        says("KIND: hand | child | general | mother | rubber | dog.", x -> {
            for (String kind : new String[] {"hand", "child", "general", "mother", "rubber", "dog"}) rulesDue(kind + " draw;", 1);
            String[] none = {"draw", "if", "not", "dusk", "number", "hands", "do", "dogs", "a", "z"};
            for (String no : none) rulesDue(no + " draw;", -100);
        });
        says("DO: draw | rest | rub.", x -> {
            x.hand(1, 5, 0, 9);
            String[] wills = {"draw", "rest", "rub"};
            for (int i = 0; i < 3; i++) {
                due(wills[i], rulesOf(x, "hand " + wills[i] + ";"), 1);
                due("will", x.handOf(0, 8), i);
            }
            String[] none = {"hand", "and", "at", "dra", "draws", "rubs", "re"};
            for (String no : none) rulesDue("dog " + no + ";", -104);
        });
    }

    private static void conditions() {
        says("COND: ALL { or ALL }", x -> {
            holds("1=1", true);
            holds("1=2", false);
            holds("1=1 or 1=2", true);
            holds("1=1 or 1=1", true);
            holds("1=2 or 1=1", true);
            holds("1=2 or 1=2", false);
            holds("1=2 or 1=2 or 1=2 or 1=1", true);
            rulesDue("dog if or 1=1 rub;", -107);
            rulesDue("dog if 1=1 or rub;", -114);
            rulesDue("dog if 1=1 1=1 rub;", -111);
        });
        says("ALL: ONE { and ONE }", x -> {
            holds("1=1 and 1=1", true);
            holds("1=1 and 1=2", false);
            holds("1=2 and 1=1", false);
            holds("1=1 and 1=1 and 1=1 and 1=2", false);
            holds("1=1 or 1=1 and 1=2", true);
            holds("1=2 and 1=1 or 1=1", true);
            holds("1=2 and 1=2 or 1=2", false);
            rulesDue("dog if and 1=1 rub;", -107);
            rulesDue("dog if 1=1 and or 1=1 rub;", -115);
        });
        says("ONE: { not } ( VALUE SIGN VALUE | \"(\" COND \")\" )", x -> {
            holds("not 1=2", true);
            holds("not 1=1", false);
            holds("not not 1=1", true);
            holds("not not not 1=1", false);
            holds("not 1=1 or 1=1", true);
            holds("not 1=2 and 1=2", false);
            holds("not (1=1 and 1=2)", true);
            holds("(1=1 or 1=1) and 1=2", false);
            holds("1=2 and (1=1 or 1=1)", false);
            holds(times(40, "not ") + "1=1", true);
            holds(times(41, "not ") + "1=1", false);
            rulesDue("dog if 1=1 not rub;", -111);
            rulesDue("dog if not rub;", -111);
            rulesDue("dog if () rub;", -108);
            rulesDue("dog if 1=(1) rub;", -109);
        });
        says("VALUE: N | dusk | at | facing | chalk | number", x -> {
            for (String value : new String[] {"0", "9999", "dusk", "at", "facing", "chalk", "number"}) {
                rulesDue("dog if " + value + "=0 rub;", 1);
                rulesDue("dog if 0=" + value + " rub;", 1);
            }
            for (String no : new String[] {"home", "dog", "rub", "if", "numbers", "dus"}) rulesDue("dog if " + no + "=0 rub;", -107);
            rulesDue("dog if -1=0 rub;", -107);
        });
        says("SIGN: < | = | >", x -> {
            holds("4<5", true);
            holds("5<5", false);
            holds("6<5", false);
            holds("4=5", false);
            holds("5=5", true);
            holds("6=5", false);
            holds("4>5", false);
            holds("5>5", false);
            holds("6>5", true);
            rulesDue("dog if 1<=2 rub;", -109);
            rulesDue("dog if 1;2 rub;", -108);
            rulesDue("dog if 1!2 rub;", -108);
        });
    }

    private static void facts() {
        says("N are NUMBERS 0 to 9999.", x -> {
            holds("0<1", true);
            holds("9999>9998", true);
            holds("9998<9999", true);
            holds("0000=0", true);
            holds("0010=10", true);
            holds("999<1000", true);
            rulesDue("dog if 10000>0 rub;", -107);
            rulesDue("dog if 9999>0 rub;", 1);
        });
        says("FACTS: the DUSK that goes by; the CELL where it is AT, FACING, CHALK then; its number.", x -> {
            holds("dusk=1", true);
            holds("dusk=0 or dusk=2", false);
            holds("at=5", true);
            holds("facing=3", true);
            holds("chalk=7", true);
            holds("number=2", true);
            holds("number=1 or number=3", false);
            holds("at<chalk and chalk>at and facing>number", true);
            ChalkWars behind = with(2, 5, 0, 9);
            rulesOf(behind, "hand if dusk=0 and at=6 and facing=0 and chalk=9 and number=0 rub;");
            behind.set(2, 1 << 15);
            behind.dusk();
            due("where it is behind its walk, in the dusk that goes by", behind.state(6), 0);
            ChalkWars turned = with(2, 7, 0, 9);
            rulesOf(turned, "hand if at=7 and facing=1 rest;");
            turned.dusk();
            due("turned as it is then", turned.state(6), 0);
            ChalkWars last = with(2, 7, 0, 9);
            last.set(0, 16);
            rulesOf(last, "hand if dusk<15 rest;");
            for (int i = 0; i < 15; i++) last.dusk();
            due("not ahead of dusk 15", last.handOf(0, 3), 9);
            last.dusk();
            due("in dusk 15", last.handOf(0, 3), 6);
        });
    }

    private static void names() {
        says("NAMES are rows of letters a to z,", x -> {
            rulesDue("hand" + (char) 96 + "draw;", -104);
            rulesDue("hand" + (char) 123 + "draw;", -104);
            rulesDue("Hand draw;", -100);
            rulesDue("hAnd draw;", -100);
            rulesDue("hand Draw;", -105);
            rulesDue("handz draw;", -100);
            rulesDue("handa draw;", -100);
            rulesDue((char) 233 + "hand draw;", -100);
        });
        says("NUMBERS rows of digits (1 to 4),", x -> {
            rulesDue("dog if 1=1234 rub;", 1);
            rulesDue("dog if 1=0 rub;", 1);
            rulesDue("dog if 1=9 rub;", 1);
            rulesDue("dog if 1/=9 rub;", -108);
            rulesDue("dog if 1:=20 rub;", -108);
            rulesDue("dog if 1=/ rub;", -109);
            rulesDue("dog if 1=: rub;", -109);
            rulesDue("dog if 1= rub;", -110);
            rulesDue("dog if 12345=1 rub;", -107);
            rulesDue("dog if 00000=1 rub;", -107);
            rulesDue("dog if " + times(150, "1") + "=1 rub;", -107);
        });
        says("both as long as they go;", x -> {
            rulesDue("handdraw;", -100);
            rulesDue("hand drawrest;", -105);
            rulesDue("dog if notat=1 rub;", -107);
            rulesDue("dog if 1=12rub;", 1);
            rulesDue("dog if at1=1 rub;", -109);
            holds("1=12", false);
        });
        says("blanks (32) part them, and stand elsewhere as one likes.", x -> {
            rulesDue("  dog  if  (  not  1  =  1  )  or  2  <  3  rub  ;  ", 1);
            rulesDue("dog if(not(1=1)or 2<3)rub;", 1);
            rulesDue("do g rub;", -100);
            rulesDue("dog if 1 2=12 rub;", -109);
            for (char c : new char[] {0, 9, 10, 13, 31, 33, 95, 127, 128, 160, 255}) {
                rulesDue("dog" + c + "rub;", -103);
                rulesDue("dog rub;" + c, -108);
            }
            rulesDue(times(200, " "), 0);
        });
    }

    private static void open() {
        says("At most 3 \"(\" are open within one another.", x -> {
            rulesDue("dog if (((1=1))) rub;", 1);
            rulesDue("dog if ((((1=1)))) rub;", -110);
            rulesDue("dog if (((1=1)))and(((1=1)))or(((1=1))) rub;", 1);
            rulesDue("dog if (((1=1)and(1=1)))or(((1=1)and((1=1)))) rub;", -137);
            rulesDue("dog if ((1=1)and((1=1)or(1=1))) rub;", 1);
            rulesDue("dog if (((1=1))) rub;dog if (((1=1))) rub;", 2);
            holds("(((at=5)))", true);
            holds("not(((at=5)))", false);
            holds("not(1=1 and not(1=1 and not(1=1)))", false);
        });
    }

    private static void fault() {
        says("FAULT: the place (from 0) of the first byte of the first NAME, NUMBER or other byte that can't stand there", x -> {
            rulesDue("rest;", -100);
            rulesDue(";", -100);
            rulesDue("7", -100);
            rulesDue("(", -100);
            rulesDue("dog hand;", -104);
            rulesDue("dog 1234;", -104);
            rulesDue("dog draw rest;", -109);
            rulesDue("dog draw) rest( 12345", -108);
            rulesDue("dog if at=1) rub;", -111);
            rulesDue("dog if (at=1 rub;", -113);
            rulesDue("dog if at=1=1 rub;", -111);
            rulesDue("dog if at(1 rub;", -109);
            rulesDue(ONE_RULE + "rub;", -108);
            rulesDue(times(199, " ") + ";", -299);
            rulesDue(times(196, " ") + "drawn", -296);
        });
        says("(a NUMBER of more digits,", x -> {
            rulesDue("dog if 00001=1 rub;", -107);
            rulesDue("dog if 1=00001 rub;", -109);
            rulesDue("dog if 1=  123456 rub;", -111);
            rulesDue("dog if 1=0001 rub;", 1);
            rulesDue("dog if 12345", -107);
            rulesDue("dog 12345", -104);
        });
        says("the fourth \"(\",", x -> {
            rulesDue("dog if ((((1=1)))) rub;", -110);
            rulesDue("dog if ( ( (   (1=1)))) rub;", -115);
            rulesDue("dog if (1=1 and (1=1 and (1=1 and (1=1)))) rub;", -134);
            rulesDue("dog if ((((", -110);
            rulesDue("dog if (((", -110);
        });
        says("the first NAME of the ninth RULE, too),", x -> {
            rulesDue(times(9, ONE_RULE), -164);
            rulesDue(times(8, ONE_RULE) + "  dog", -166);
            rulesDue(times(8, ONE_RULE) + "x", -164);
            rulesDue(times(8, ONE_RULE) + ";", -164);
            rulesDue(times(7, ONE_RULE) + "dog", -159);
            rulesDue(times(10, ONE_RULE), -164);
        });
        says("or the end (how many bytes there are), if more must come.", x -> {
            String whole = "dog if not(at=1)rub;";
            for (int n = 1; n < whole.length(); n++) {
                boolean within = n == 1 || n == 2 || n == 5 || n == 8 || n == 9 || n == 12 || n == 17 || n == 18;
                if (!within) rulesDue(whole.substring(0, n), -100 - n);
            }
            rulesDue(whole, 1);
            rulesDue("dog", -103);
            rulesDue("dog   ", -106);
            rulesDue("dog rub ", -108);
            rulesDue(ONE_RULE + "dog if 1=1 ", -119);
            rulesDue("dog" + times(197, " "), -300);
            rulesDue(times(196, " ") + "hand", -300);
            rulesDue(times(197, " ") + "han", -297);
            rulesDue("dog if" + times(193, " ") + "1", -300);
            rulesDue("dog if at=" + times(186, " ") + "1234", -300);
            rulesDue("dog if at=" + times(185, " ") + "12345", -295);
            ChalkWars y = new ChalkWars();
            rulesOf(y, "dog if at=12345");
            due("digits that stood there earlier are none now", rulesOf(y, "dog if at=1234"), -114);
            rulesOf(y, "dog draws");
            due("nor are letters", rulesOf(y, "dog draw"), -108);
        });
    }

    private static void feedCalls() {
        promise(10, "n bytes (1 to 8) come to THE TAPE, the lowest of eight first: how many it has.", x -> {
            for (int n = 1; n <= 8; n++) due("feed " + n, x.feed(0x2020202020202020L, n), n * (n + 1) / 2);
            ChalkWars first = new ChalkWars();
            first.feed(0x3b62757220676f64L, 8);
            due("dog rub;", first.rules(), 1);
            ChalkWars last = new ChalkWars();
            last.feed(0x646f67207275623bL, 8);
            due("from the other end: ;bur god", last.rules(), -100);
            ChalkWars part = new ChalkWars();
            due("only three", part.feed(0x3b62757220676f64L, 3), 3);
            due("and four of others", part.feed(0x3b3b3b6275722020L >>> 8, 4), 7);
            due("dog rub, and no ;", part.rules(), -107);
            ChalkWars high = new ChalkWars();
            due("bytes above 127", high.feed(-1L, 8), 8);
            due("stand nowhere", high.rules(), -100);
            due("the ninth row's lowest byte alone", high.feed(0x1234567800000020L, 1), 1);
            due("is a blank", high.rules(), 0);
        });
        promise(10, "BAD;", x -> {
            for (int n : new int[] {0, 9, -1, Integer.MIN_VALUE, Integer.MAX_VALUE}) due("feed " + n, x.feed(32, n), BAD);
            due("nothing came", x.many(5), 0);
            for (int i = 0; i < 25; i++) x.feed(32, 8);
            due("bad is named ahead of full", x.feed(32, 9), BAD);
        });
        promise(10, "FULL: more than 200.", x -> {
            for (int i = 0; i < 24; i++) x.feed(0x2020202020202020L, 8);
            due("7", x.feed(0x2020202020202020L, 7), 199);
            for (int n = 2; n <= 8; n++) due("no room for " + n, x.feed(-1L, n), FULL);
            due("nothing of it came", x.many(5), 199);
            due("1", x.feed(32, 1), 200);
            due("no room for 1", x.feed(32, 1), FULL);
            due("all blanks", x.rules(), 0);
            due("room again", x.feed(0x2020202020202020L, 8), 8);
        });
    }

    private static void rulesCalls() {
        promise(11, "THE TAPE tells THE RULES (in place of all): how many;", x -> {
            x.hand(5, 5, 0, 9);
            due("two", rulesOf(x, "dog rest;dog rub;"), 2);
            due("one", rulesOf(x, "dog if 1=2 rest;"), 1);
            due("none of the two is left", x.handOf(0, 8), 0);
            due("many", x.many(1), 1);
            due("eight", rulesOf(x, times(8, ONE_RULE)), 8);
            due("an empty tape", x.rules(), 0);
            due("no rules", x.many(1), 0);
            due("none tells", x.handOf(0, 8), 0);
        });
        promise(11, "-100 less its FAULT.", x -> {
            x.hand(5, 5, 0, 9);
            rulesOf(x, "dog rest;dog rub;");
            due("at 0", rulesOf(x, ";"), -100);
            due("at 9, a rule ahead of it", rulesOf(x, "dog draw;x"), -109);
            due("the ninth", rulesOf(x, times(9, ONE_RULE)), -164);
            due("at the end of 200", rulesOf(x, times(197, " ") + "dog"), -300);
            due("the two are there still", x.many(1), 2);
            due("the first of them tells", x.handOf(0, 8), 1);
        });
    }
}
