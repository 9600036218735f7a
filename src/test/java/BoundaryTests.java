import java.nio.file.Files;
import java.nio.file.Path;

/** Each sentence of the document that names a boundary case, by its own words; here those that hold for every call. */
public final class BoundaryTests extends Sentences {
    public static void main(String[] args) throws Exception {
        read(Files.readString(Path.of(args[0])));
        calls();
        refusals();
        asked();
        CityBoundaryTests.all();
        RulesBoundaryTests.all();
        AskBoundaryTests.all();
        HostBoundaryTests.all();
        allTold();
        end();
    }

    private static void calls() {
        says("An object is used for at most 512 calls after it has been made;", x -> {
            for (int i = 0; i < 3; i++) x.hand(2, 1, 2, 9);
            Call[] calls = {(y, a) -> y.report(a[0], 0, 11), (y, a) -> y.keep(), (y, a) -> y.again(), (y, a) -> y.forget()};
            int[] answers = {0, 1, 3, 1};
            for (int i = 0; i < 506; i++) due("call " + (i + 4), calls[i % 4].on(x, i % 16), answers[i % 4]);
            due("call 510", x.best(2), 11);
            due("call 511", x.dusk(), 0);
            due("call 512", x.state(0), 1);
        });
    }

    /** All six HANDS, six REPORTS of which none FITS, ROWS, THE TRACE, SHEETS but one, SHELVES but one; OVER, or one DUSK to come. */
    private static ChalkWars busy(boolean over) {
        ChalkWars x = new ChalkWars();
        x.hand(5, 5, 0, 3);
        x.keep();
        for (int i = 1; i < 6; i++) x.hand(i, i, i % 4, 9);
        rulesOf(x, "dog rest;hand if chalk<3 rub;");
        x.set(1, 1);
        x.set(2, 1 << 8 | 1 << 16 | 1 << 3);
        x.set(3, 1 << 8);
        x.set(4, 1 << 9);
        x.seed(99);
        for (int i = 0; i < 6; i++) x.report(0, i, i);
        x.set(0, 6);
        for (int i = 0; i < 3; i++) x.dusk();
        x.prove(3);
        x.alterRow(2, 1, 66);
        acts(x, 0, 1, 9, 2, 0);
        x.sheet(1, 1, 4);
        x.write(1, 3, 777);
        x.sheet(2, 4, 1);
        x.shelf(0, 0, 3);
        x.shelf(1, 1, 1);
        x.shelf(2, 0, 5);
        tell(x, "dog re");
        x.act(0, 3, 5);
        for (int i = 3; i < (over ? 6 : 5); i++) x.dusk();
        return x;
    }

    /** What THE TAPE has, and what is kept, can only be seen by using them: ahead of it nothing else may have changed. */
    private static void changesNothing(String what, boolean over, Call call, int answer) {
        String was = all(busy(over));
        ChalkWars x = busy(over);
        due(what, call.on(x), answer);
        due("all behind " + what, all(x), was);
        tell(x, "st;");
        due("the tape behind " + what, x.rules(), 1);
        due("what was kept behind " + what, x.again(), 1);
        due("its DUSK", x.state(0), 0);
    }

    private static void refused(String what, Call call, int answer) {
        changesNothing(what, false, call, answer);
    }

    private static void refusals() {
        says("Answers below 0, where not told otherwise, are refusals; such a call changes nothing", x -> {
            refused("hand, bad", (y, a) -> y.hand(6, 0, 0, 0), BAD);
            refused("hand, full", (y, a) -> y.hand(1, 0, 0, 0), FULL);
            refused("handOf", (y, a) -> y.handOf(6, 0), BAD);
            refused("change", (y, a) -> y.change(0, 3, 10), BAD);
            refused("remake", (y, a) -> y.remake(0, 6), BAD);
            for (int what = -1; what <= 5; what++) {
                int w = what;
                refused("set " + what, (y, a) -> y.set(w, -1), BAD);
            }
            refused("set END", (y, a) -> y.set(0, 4), STATE);
            refused("edge", (y, a) -> y.edge(0, 3), NONE);
            refused("state", (y, a) -> y.state(9), BAD);
            refused("feed 9", (y, a) -> y.feed(0, 9), BAD);
            refused("on", (y, a) -> y.on(17), BAD);
            refused("when", (y, a) -> y.when(1), NONE);
            refused("chalkFor", (y, a) -> y.chalkFor(6), BAD);
            refused("facingFor", (y, a) -> y.facingFor(-1), BAD);
            refused("cut", (y, a) -> y.cut(1, 0), NONE);
            refused("best", (y, a) -> y.best(5), BAD);
            refused("ith", (y, a) -> y.ith(4, 3), NONE);
            refused("ways", (y, a) -> y.ways(-1), BAD);
            refused("siege", (y, a) -> y.siege(4, 2), NONE);
            refused("bars", (y, a) -> y.bars(4, 0), NONE);
            refused("game", (y, a) -> y.game(0), BAD);
            refused("report", (y, a) -> y.report(0, 0, 0), FULL);
            refused("span", (y, a) -> y.span(1), NONE);
            refused("liar", (y, a) -> y.liar(), NONE);
            refused("times", (y, a) -> y.times(41, 0), BAD);
            refused("prove", (y, a) -> y.prove(5), BAD);
            refused("row", (y, a) -> y.row(3, 0), NO_ROW);
            refused("alterRow", (y, a) -> y.alterRow(3, 0, 5), NO_ROW);
            refused("alterRow what", (y, a) -> y.alterRow(0, 3, 5), NO_ROW);
            refused("sheet, bad", (y, a) -> y.sheet(0, 0, 41), BAD);
            refused("sheet, below 0", (y, a) -> y.sheet(0, 0, -1), BELOW_NONE);
            refused("write, bad", (y, a) -> y.write(4, 0, 5), BAD);
            refused("write, missing", (y, a) -> y.write(3, 0, 5), NOTHING);
            refused("write, outside", (y, a) -> y.write(0, 4, 5), OUTSIDE);
            refused("item", (y, a) -> y.item(1, 0, 0), ANOTHER);
            refused("goAll, bad", (y, a) -> y.goAll(0, 0, 21), BAD);
            refused("goAll, another sort", (y, a) -> y.goAll(1, 0, 1), ANOTHER);
            refused("goAll, missing", (y, a) -> y.goAll(3, 0, 1), NOTHING);
            refused("goAll, outside at once", (y, a) -> y.goAll(0, 4, 1), OUTSIDE);
            refused("wouldBe, outside", (y, a) -> y.wouldBe(0, 3, 2), OUTSIDE);
            refused("wouldBe, no act", (y, a) -> y.wouldBe(0, 0, 2), STATE);
            refused("shelf", (y, a) -> y.shelf(0, 0, 6), BAD);
            refused("shelf, a sheet", (y, a) -> y.shelf(0, 1, 4), BAD);
            refused("taken, bad", (y, a) -> y.taken(0, 6), BAD);
            refused("taken, another", (y, a) -> y.taken(0, 10), ANOTHER);
            refused("taken, nothing", (y, a) -> y.taken(3, 0), NOTHING);
            refused("trace", (y, a) -> y.trace(11), NONE);
            refused("many", (y, a) -> y.many(7), BAD);
            changesNothing("dusk", true, (y, a) -> y.dusk(), STATE);
            changesNothing("lot", true, (y, a) -> y.lot(), STATE);
            changesNothing("play", true, (y, a) -> y.play(4), NONE);
            changesNothing("wouldBe, over", true, (y, a) -> y.wouldBe(0, 0, 1), STATE);
        });
        says("such a call changes nothing (but that THE TAPE is used up by rules());", x -> {
            String was = all(busy(false)).replace(" 6 11 z", " 0 11 z");
            ChalkWars y = busy(false);
            due("rules", y.rules(), -104);
            due("all but the tape", all(y), was);
            due("the tape", y.many(5), 0);
            tell(x, "dog rest;");
            for (int i = 0; i < 23; i++) x.feed(0, 8);
            int has = x.many(5);
            due("no room", x.feed(-1L, 8), FULL);
            due("the tape as it was", x.many(5), has);
        });
        says("of several the first named: BAD (-1) there is no such thing, or a number is not as told;"
            + " FULL (-2); NONE (-3); STATE (-4);", x -> {
            due("BAD", ChalkWars.BAD, -1);
            due("FULL", ChalkWars.FULL, -2);
            due("NONE", ChalkWars.NONE, -3);
            due("STATE", ChalkWars.STATE, -4);
            ChalkWars y = busy(true);
            due("hand, bad and full", y.hand(0, 0, 0, 0), BAD);
            due("set END, bad and below DUSK", y.set(0, 0), BAD);
            due("edge, bad and none", y.edge(0, 4), BAD);
            due("cut, bad and HOME", y.cut(1, 2), BAD);
            due("ith, bad and none", y.ith(5, 0), BAD);
            due("siege, bad and none", y.siege(5, 2), BAD);
            due("bars, bad and none", y.bars(5, 0), BAD);
            due("play, bad and over", y.play(5), BAD);
            due("report, bad and full", y.report(16, 0, 0), BAD);
            due("span, bad and none", y.span(-1), BAD);
            for (int i = 0; i < 24; i++) y.feed(0, 8);
            due("feed, bad and full", y.feed(0, 9), BAD);
            due("sheet, bad and below 0", y.sheet(4, 0, -1), BAD);
            due("write, bad and outside", y.write(4, 99, 0), BAD);
            due("write, missing and outside", y.write(3, 99, 0), NOTHING);
            due("item, bad and another", y.item(1, 5, 0), BAD);
            due("item, another and outside", y.item(1, 0, 99), ANOTHER);
            due("item, missing and outside", y.item(3, 0, 99), NOTHING);
            due("goAll, bad and another", y.goAll(1, 0, 21), BAD);
            due("goAll, another and outside", y.goAll(1, 99, 1), ANOTHER);
            due("wouldBe, bad and missing", y.wouldBe(3, 0, 21), BAD);
            due("wouldBe, another and over", y.wouldBe(1, 0, 1), ANOTHER);
            due("wouldBe, outside and over", y.wouldBe(0, 99, 1), OUTSIDE);
            due("shelf, bad", y.shelf(4, 3, 9), BAD);
            due("taken, bad and nothing", y.taken(3, 6), BAD);
        });
        says("and what the host refuses: -11 nothing where something is asked, -12 a place outside, -13 a thing of another sort or kind,"
            + " -14 a size below 0, -15 parted by 0.", x -> {
            x.hand(1, 0, 0, 0);
            x.shelf(0, 0, 0);
            x.sheet(1, 2, 3);
            due("-11, a sheet", x.item(0, 0, 0), -11);
            due("-11, a shelf", x.taken(1, 0), -11);
            due("-12", x.item(1, 2, 3), -12);
            due("-13, a sort", x.item(1, 3, 0), -13);
            due("-13, a kind", x.taken(0, 2), -13);
            due("-14", x.sheet(2, 2, -1), -14);
            due("-15", x.act(0, 2, 5), -15);
        });
        says("Sets are told by bits.", x -> {
            for (int e = 0; e < 17; e++) {
                x.set(2, 1 << e);
                due("edge " + e, x.state(6), 1 << e);
            }
            x.set(2, 1 << 8 | 1 << 16);
            due("cell 11", x.state(4), 1 << 11);
            due("edges 8 and 16", x.cut(11, 1), 0);
            x.set(2, 0);
            x.set(1, 5);
            due("edges 8 and 16 to be drawn", x.cut(11, 1), 1 << 8 | 1 << 16);
            x.set(4, 1 << 3);
            x.set(2, ALL_EDGES);
            for (int i = 0; i < 4; i++) due("dusk " + i, x.dusk(), i == 3 ? 0 : 11);
        });
        says("Quotients are cut towards 0.", x -> {
            x.hand(1, 0, 0, 5);
            x.shelf(0, 0, 0);
            due("-7 by 5", x.act(0, 2, -7), -2);
            due("7 by 5", x.act(0, 2, 7), 2);
            x.hand(1, 0, 0, 0);
            for (int i = 2; i < 6; i++) x.hand(1, 0, 0, 0);
            x.shelf(1, 0, 5);
            due("-7 by -5", x.act(1, 2, -7), -2);
            due("7 by -5", x.act(1, 2, 7), 2);
        });
    }

    private static void asked() {
        says("======== 3 What is asked changes nothing, if not told.", x -> {
            Call[] asks = {
                (y, a) -> y.handOf(5, 8), (y, a) -> y.edge(5, 0), (y, a) -> y.state(4), (y, a) -> y.on(16), (y, a) -> y.when(0),
                (y, a) -> y.chalkFor(5), (y, a) -> y.facingFor(5), (y, a) -> y.cut(0, 1), (y, a) -> y.way(0, 11), (y, a) -> y.bridges(),
                (y, a) -> y.best(4), (y, a) -> y.ith(4, 0), (y, a) -> y.ways(4), (y, a) -> y.siege(4, 0), (y, a) -> y.bars(4, ALL_CELLS),
                (y, a) -> y.game(4), (y, a) -> y.play(4), (y, a) -> y.span(0), (y, a) -> y.liar(), (y, a) -> y.times(40, 0),
                (y, a) -> y.row(2, 1), (y, a) -> y.judge(), (y, a) -> y.item(1, 1, 3), (y, a) -> y.wouldBe(0, 2, 1),
                (y, a) -> y.taken(0, 0), (y, a) -> y.trace(3), (y, a) -> y.many(6), (y, a) -> y.keep()};
            for (int i = 0; i < asks.length - 1; i++) {
                for (int over = 0; over < 2; over++) {
                    int answer = asks[i].on(busy(over == 1));
                    changesNothing("ask " + i, over == 1, asks[i], answer);
                }
            }
            String was = all(busy(false));
            ChalkWars y = busy(false);
            y.keep();
            due("keeping changes nothing that is", all(y), was);
        });
    }
}
