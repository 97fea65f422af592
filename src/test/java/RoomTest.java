import java.lang.management.ManagementFactory;

/** Long runs stay within the room that all calls of one run have, and go on past it without a fault. */
public final class RoomTest {
    /** Far below 7.3 million elements, even if each had eight bytes. */
    private static final long MOST_BYTES = 4_000_000;

    public static void main(String[] args) {
        Check.same("room of comparing", true, bytesOf(RoomTest::compareMuch) < MOST_BYTES);
        Check.same("room of documents", true, bytesOf(RoomTest::openMuch) < MOST_BYTES);
        Check.end();
    }

    private static long bytesOf(Runnable run) {
        com.sun.management.ThreadMXBean threads =
                (com.sun.management.ThreadMXBean) ManagementFactory.getThreadMXBean();
        run.run();
        long before = threads.getCurrentThreadAllocatedBytes();
        run.run();
        return threads.getCurrentThreadAllocatedBytes() - before;
    }

    private static void put(Fuzzyseg x, int seed, int length) {
        for (int i = 0; i < length; i++) {
            x.word((seed * 7 + i) % 100);
        }
    }

    private static void compareMuch() {
        Fuzzyseg x = new Fuzzyseg();
        for (int i = 0; i < 40; i++) {
            put(x, i, 60);
            x.takeSource();
            put(x, i, 60);
            x.addUnit();
        }
        for (int i = 0; i < 12; i++) {
            x.mark('!');
            x.word(i);
            x.number(i);
            x.tag(0);
            x.mark('?');
        }
        x.open();
        put(x, 3, 60);
        for (int i = 0; i < 100; i++) {
            x.isSound();
            x.best();
            x.bestOfAll();
            x.fill(100);
            x.meanLikeness();
            x.sharedPairs(i % 40);
        }
    }

    private static void openMuch() {
        Fuzzyseg x = new Fuzzyseg();
        for (int i = 0; i < 9; i++) {
            for (int j = 0; j < 60; j++) {
                x.mark('!');
            }
            x.open();
            x.word(i);
            x.answer(0);
            x.fill(1);
        }
    }
}
