import java.lang.management.ManagementFactory;

/** The dearest runs of 512 calls on one object stay within a small part of the room of all calls. */
public final class RoomTest {
    /** A tenth of 7.3 million elements, even if each had four bytes. */
    private static final long MOST_BYTES = 2_900_000;

    public static void main(String[] args) {
        Check.same("room of comparing", true, bytesOf(RoomTest::compareMuch) < MOST_BYTES);
        Check.same("room of long texts", true, bytesOf(RoomTest::compareLongTexts) < MOST_BYTES);
        Check.same("room of documents", true, bytesOf(RoomTest::openMuch) < MOST_BYTES);
        Check.end();
    }

    private static long bytesOf(Runnable run) {
        com.sun.management.ThreadMXBean threads =
                (com.sun.management.ThreadMXBean) ManagementFactory.getThreadMXBean();
        run.run();
        long before = threads.getCurrentThreadAllocatedBytes();
        run.run();
        return threads.getCurrentThreadAllocatedBytes() - before;
    }

    private static void putMarks(Fuzzyseg x, int length) {
        for (int i = 0; i < length; i++) {
            x.mark('!');
        }
    }

    /** 160 calls for the units, 61 for the document, 60 for the draft, 231 that ask. */
    private static void compareMuch() {
        Fuzzyseg x = new Fuzzyseg();
        for (int i = 0; i < 40; i++) {
            x.mark('!');
            x.takeSource();
            x.word(i);
            x.addUnit();
        }
        putMarks(x, 60);
        x.open();
        putMarks(x, 60);
        for (int i = 0; i < 33; i++) {
            askAll(x, i);
        }
    }

    private static void askAll(Fuzzyseg x, int unit) {
        x.isSound();
        x.best();
        x.bestOfAll();
        x.costFromEnds(unit);
        x.fill(100);
        x.meanLikeness();
        x.sharedPairs(unit);
    }

    /** 366 calls for the units, 61 for the document, 1 for the draft, 84 that ask. */
    private static void compareLongTexts() {
        Fuzzyseg x = new Fuzzyseg();
        for (int i = 0; i < 3; i++) {
            putMarks(x, 60);
            x.takeSource();
            putMarks(x, 60);
            x.addUnit();
        }
        putMarks(x, 60);
        x.open();
        x.mark('!');
        for (int i = 0; i < 12; i++) {
            askAll(x, i % 3);
        }
    }

    /** 8 times 64 calls. */
    private static void openMuch() {
        Fuzzyseg x = new Fuzzyseg();
        for (int i = 0; i < 8; i++) {
            putMarks(x, 60);
            x.open();
            x.word(i);
            x.answer(0);
            x.fill(1);
        }
    }
}
