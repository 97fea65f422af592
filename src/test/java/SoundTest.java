import java.io.IOException;
import java.lang.reflect.Method;
import java.nio.file.Files;
import java.nio.file.Path;
import java.util.Arrays;

/**
 * Promise 40: the two ways agree in the class as it is, so only a copy of it with one of them spoiled
 * shows whether isSound looks at both, "for each segment and each unit".
 */
public final class SoundTest {
    private static final Path CLASS = Path.of("src/main/java/Fuzzyseg.java");
    private static final int NONE = -1;

    private final Class<?> type;
    private final String name;

    private SoundTest(String name, Class<?> type) {
        this.name = name;
        this.type = type;
    }

    public static void main(String[] args) throws Exception {
        asItIs();
        costForEachUnit();
        costForEachSegment();
        bestForEachSegment();
        bestInOneWayAlone();
        Check.end();
    }

    private static void asItIs() throws Exception {
        SoundTest right = spoiled("as-it-is", "", "");
        right.due(true, NONE, words(7, 1, 1), words(8, 1, 1));
        right.due(true, 1, words(8, 8, 8), words(8, 1, 8));
        right.due(true, 0, words(1), words(1));
    }

    /** The cost from the ends is too high for sources that begin with word 7. */
    private static void costForEachUnit() throws Exception {
        SoundTest test = spoiled("unit", "return below[0];",
                "return below[0] + (other.at(0) == 7 ? 1 : 0);");
        test.due(true, NONE, words(1, 1, 1), words(7, 7, 7));
        test.due(false, NONE, words(7, 1, 1), words(1, 1, 1));
        test.due(false, NONE, words(1, 7, 1), words(1, 1, 1));
        test.due(false, NONE, words(1, 1, 7), words(1, 1, 1));
        test.due(false, 1, words(1, 7, 1), words(1, 1, 1));
        test.due(true, NONE, words(7, 7, 7), words());
    }

    /** The cost from the ends is too high for segments that begin with word 8. */
    private static void costForEachSegment() throws Exception {
        SoundTest test = spoiled("segment", "return below[0];",
                "return below[0] + (text.at(0) == 8 ? 1 : 0);");
        test.due(true, NONE, words(8, 8, 8), words(1, 1, 1));
        test.due(false, NONE, words(1), words(8, 1, 1));
        test.due(false, NONE, words(1), words(1, 8, 1));
        test.due(false, NONE, words(1), words(1, 1, 8));
        test.due(true, NONE, words(), words(8, 8, 8));
    }

    /** Of equal units, comparing all takes the first one for segments that begin with word 8. */
    private static void bestForEachSegment() throws Exception {
        SoundTest test = spoiled("best", "!isBetter(topScore, topLikeness, rated, alike)",
                "(text.at(0) == 8 ? isBetter(rated, alike, topScore, topLikeness)"
                        + " : !isBetter(topScore, topLikeness, rated, alike))");
        test.due(true, NONE, words(1, 1), words(1, 1, 1));
        test.due(false, NONE, words(8, 8), words(8, 1, 1));
        test.due(false, NONE, words(8, 8), words(1, 8, 1));
        test.due(false, NONE, words(8, 8), words(1, 1, 8));
        test.due(true, 1, words(8, 8), words(8, 8, 8));
    }

    private static void bestInOneWayAlone() throws Exception {
        SoundTest test = spoiled("offered", "row.live && rated >= 1", "row.live && rated > 100");
        test.due(true, NONE, words(90), words(1, 1));
        test.due(false, NONE, words(1), words(1, 1));
        test.due(true, 0, words(1), words(1, 1));
    }

    private static int[] words(int... values) {
        return values;
    }

    private static SoundTest spoiled(String name, String right, String wrong)
            throws IOException, ReflectiveOperationException {
        String source = Files.readString(CLASS);
        Check.same("there is " + right, true, source.contains(right));
        Class<?> type = Built.load("sound/" + name, "Fuzzyseg", source.replace(right, wrong),
                ClassLoader.getPlatformClassLoader());
        return new SoundTest(name, type);
    }

    /** Each unit's source is one word, each segment a word and a mark. */
    private void due(boolean want, int withdrawn, int[] sources, int[] segments)
            throws ReflectiveOperationException {
        Object x = type.getConstructor().newInstance();
        Method word = type.getMethod("word", int.class);
        for (int source : sources) {
            word.invoke(x, source);
            type.getMethod("takeSource").invoke(x);
            word.invoke(x, 2);
            type.getMethod("addUnit").invoke(x);
        }
        if (withdrawn != NONE) {
            type.getMethod("withdraw", int.class).invoke(x, withdrawn);
        }
        for (int segment : segments) {
            word.invoke(x, segment);
            type.getMethod("mark", char.class).invoke(x, '!');
        }
        if (segments.length > 0) {
            type.getMethod("open").invoke(x);
        }
        String what = "40 " + name + ", units " + Arrays.toString(sources)
                + ", segments " + Arrays.toString(segments) + ", withdrawn " + withdrawn;
        Check.same(what, want, type.getMethod("isSound").invoke(x));
    }
}
