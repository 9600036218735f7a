import java.lang.management.ManagementFactory;

/** All 512 calls of a run live in one room: the dearest calls, each 512 times, make hardly anything. */
public final class RoomTest {
    private static final long MOST_BYTES = 4_000_000;
    private static int passed = 0, failed = 0;

    private interface Call {
        int on(ChalkWars x, int i);
    }

    public static void main(String[] args) {
        measure("construction", (x, i) -> i == 0 ? new ChalkWars().many(0) : 0);
        measure("best", (x, i) -> x.best(4));
        measure("prove", (x, i) -> x.prove(4));
        measure("siege", (x, i) -> x.siege(4, 2048));
        measure("game", (x, i) -> x.game(4));
        measure("play", (x, i) -> x.play(4));
        measure("cut", (x, i) -> x.cut(11, 1));
        measure("times", (x, i) -> x.times(40, 3));
        measure("span", (x, i) -> x.span(0));
        measure("chalkFor", (x, i) -> x.chalkFor(0));
        measure("report", (x, i) -> i % 7 == 6 ? x.forget() : x.report(3, 0, 11));
        measure("keep", (x, i) -> x.keep());
        measure("again", (x, i) -> x.again());
        measure("sheet", (x, i) -> x.sheet(i % 4, 3, 40));
        measure("act", (x, i) -> x.act(0, 3, i));
        measure("rules, full", (x, i) -> i % 26 == 25 ? x.rules() : x.feed(0x2020202020202020L, 8));
        measure("rules, empty", (x, i) -> x.rules());
        System.out.println(passed + " passed, " + failed + " failed");
        if (failed > 0) System.exit(1);
    }

    private static void measure(String what, Call call) {
        com.sun.management.ThreadMXBean threads = (com.sun.management.ThreadMXBean) ManagementFactory.getThreadMXBean();
        ChalkWars x = new ChalkWars();
        for (int i = 0; i < 6; i++) x.hand(1 + i % 5, 2 * i, i % 4, 9);
        x.shelf(0, 0, 2);
        long me = Thread.currentThread().getId();
        long before = threads.getThreadAllocatedBytes(me);
        for (int i = 0; i < 490; i++) call.on(x, i);
        long made = threads.getThreadAllocatedBytes(me) - before;
        if (made <= MOST_BYTES) passed++;
        else {
            failed++;
            System.out.println(what + " makes " + made + " bytes");
        }
    }
}
