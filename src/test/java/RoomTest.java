import java.lang.management.ManagementFactory;

/** A run of 512 calls lives in one room: the dearest calls, 512 times each, make little. */
public final class RoomTest {
    private static final com.sun.management.ThreadMXBean THREADS = (com.sun.management.ThreadMXBean) ManagementFactory.getThreadMXBean();
    /** 7.3 million fields and elements, were each of four bytes alone, and a tenth of that for one object's calls. */
    private static final long ROOM = 7_300_000L * 4 / 10;
    private static int wrong = 0;

    private interface Calls {
        void on(WellHeirs x);
    }

    private static long made(Calls calls, int times) {
        WellHeirs x = new WellHeirs();
        Check.well(x, "water 20 bottom 900 sinks 1 rain 5 by 3;person a dies 9;person b of a;person c of a;person d of a dies 40;person e of b;person f;"
            + "person g;person h;rope r of a yards 180 age 3;rope s of b yards 9 age 3 yards 3 age 3 yards 2 age 1 yards 1 age 1;");
        Check.law(x, "if holy or yards > 30 and not age < 3 give each;if reaches give poorest;");
        for (int i = 0; i < 10; i++) x.cut(0, 15);
        x.tray(0, 0, 8);
        x.write(0, 0, 1);
        long before = THREADS.getThreadAllocatedBytes(Thread.currentThread().getId());
        for (int i = 0; i < times; i++) calls.on(x);
        return THREADS.getThreadAllocatedBytes(Thread.currentThread().getId()) - before;
    }

    private static void count(String name, int times, Calls calls) {
        made(calls, 3);
        long bytes = made(calls, times);
        if (bytes > ROOM) {
            wrong++;
            System.out.println("RoomTest: " + name + " " + times + " times makes " + bytes + " bytes");
        }
    }

    private static void count(String name, Calls calls) {
        count(name, 512, calls);
    }

    public static void main(String[] args) {
        String law = "if " + "holy or ".repeat(23) + "year<1 give each;" + "if ".repeat(20);
        count("new", 200, x -> new WellHeirs().status());
        count("odds", x -> x.odds(1, 100, 0, 20));
        count("plan", x -> x.plan());
        count("spread", x -> x.spread(11));
        count("thirst", x -> x.thirst(1));
        count("last", x -> x.last(0));
        count("whoThen", x -> x.whoThen(100));
        count("waiting", x -> x.leastWaiting(0, 1));
        count("mark and back", x -> { x.mark(); x.back(); });
        count("law", x -> Check.law(x, law.substring(0, 211)));
        count("well", x -> Check.well(x, "person a;person b of a;rope r of a yards 1 age 2 yards 3 age 4;"));
        count("tray", x -> x.tray(1, 3, 60));
        System.out.println(wrong == 0 ? "RoomTest: there is room" : "RoomTest: " + wrong + " calls are too dear");
        if (wrong != 0) System.exit(1);
    }
}
