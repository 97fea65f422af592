import java.util.Random;

/** All promises: runs of random calls, each answer and the whole state compared with the model's. */
public final class RandomRunsTest {
    private static final int RUNS = 3000;
    /** What later calls answer is free. */
    private static final int MOST_CALLS = 512;
    private static final int[] WORDS = {1, 2, 11, 12, 30};
    private static final int[] NUMBERS = {0, 1, 5};
    private static final String MARKS = ".!?,;";

    private final Random random;
    private final int longest;
    private Fuzzyseg real = new Fuzzyseg();
    private Model model = new Model();
    private String what = "";
    private int calls = 0;

    private RandomRunsTest(long seed) {
        random = new Random(seed);
        longest = seed % 10 == 0 ? 60 : seed % 3 == 0 ? 20 : 6;
        what = "seed " + seed;
    }

    public static void main(String[] args) {
        for (int seed = 0; seed < RUNS; seed++) {
            new RandomRunsTest(seed).run();
        }
        Check.end();
    }

    private void run() {
        String name = what;
        for (int i = 0; calls < MOST_CALLS; i++) {
            what = name + ", change " + i;
            change(random.nextInt(100));
            if (i % 6 == 0) {
                compareQueries();
            }
            if (i % 9 == 0) {
                compareState();
            }
        }
    }

    private void both(String call, Check.Call due, Check.Call asked) {
        if (calls < MOST_CALLS) {
            calls++;
            Check.due(what + ", " + call, Check.outcomeOf(due), asked);
        }
    }

    private int oneOf(int[] values) {
        return values[random.nextInt(values.length)];
    }

    /** Mostly within the range, now and then beyond its ends. */
    private int upTo(int end) {
        return random.nextInt(end + 2) - 1;
    }

    private void change(int choice) {
        if (choice < 45) {
            putText(1 + random.nextInt(longest));
        } else if (choice < 58) {
            both("takeSource", () -> model.takeSource(), () -> real.takeSource());
        } else if (choice < 70) {
            both("addUnit", () -> model.addUnit(), () -> real.addUnit());
        } else if (choice < 78) {
            both("open", () -> model.open(), () -> real.open());
        } else if (choice < 86) {
            int threshold = random.nextInt(8) == 0 ? upTo(101) : 1 + random.nextInt(100);
            both("fill " + threshold, () -> model.fill(threshold), () -> real.fill(threshold));
        } else if (choice < 91) {
            int segment = upTo(model.segments());
            both("answer " + segment, () -> model.answer(segment), () -> real.answer(segment));
        } else {
            changeRarely(choice);
        }
    }

    private void changeRarely(int choice) {
        int unit = upTo(model.units());
        if (choice < 93) {
            both("correct " + unit, () -> model.correct(unit), () -> real.correct(unit));
        } else if (choice < 95) {
            both("withdraw " + unit, () -> model.withdraw(unit), () -> real.withdraw(unit));
        } else if (choice < 96) {
            changeWeights();
        } else if (choice < 97) {
            int word = random.nextInt(9) == 0 ? upTo(100) : oneOf(WORDS);
            both("addAbbreviation " + word,
                    () -> model.addAbbreviation(word), () -> real.addAbbreviation(word));
        } else if (choice < 99) {
            int from = random.nextInt(9) == 0 ? upTo(100) : oneOf(WORDS);
            int to = random.nextInt(9) == 0 ? upTo(100) : oneOf(WORDS);
            both("addTerm " + from + " " + to, () -> model.addTerm(from, to), () -> real.addTerm(from, to));
        } else {
            both("clear", () -> model.clear(), () -> real.clear());
        }
    }

    private void changeWeights() {
        int[] w = new int[4];
        for (int i = 0; i < 4; i++) {
            w[i] = random.nextInt(20) == 0 ? upTo(10) : 1 + random.nextInt(9);
        }
        both("setWeights", () -> model.setWeights(w[0], w[1], w[2], w[3]),
                () -> real.setWeights(w[0], w[1], w[2], w[3]));
    }

    private void putText(int length) {
        for (int i = 0; i < length; i++) {
            int choice = random.nextInt(20);
            if (choice < 9) {
                int value = oneOf(WORDS);
                both("word " + value, () -> model.token('w', value), () -> real.word(value));
            } else if (choice < 12) {
                int value = oneOf(NUMBERS);
                both("number " + value, () -> model.token('n', value), () -> real.number(value));
            } else if (choice < 14) {
                int value = random.nextInt(2);
                both("tag " + value, () -> model.token('t', value), () -> real.tag(value));
            } else if (choice < 19) {
                char mark = MARKS.charAt(random.nextInt(MARKS.length()));
                both("mark " + mark, () -> model.token('m', mark), () -> real.mark(mark));
            } else {
                putOutOfRange();
            }
        }
    }

    private void putOutOfRange() {
        int value = random.nextBoolean() ? -1 : 10000 + random.nextInt(9);
        both("word " + value, () -> model.token('w', value), () -> real.word(value));
        both("number " + value, () -> model.token('n', value), () -> real.number(value));
        both("tag " + value, () -> model.token('t', value), () -> real.tag(value));
        both("mark " + value, () -> model.token('m', (char) value), () -> real.mark((char) value));
    }

    private void compareQueries() {
        int u = upTo(model.units());
        both("isLive " + u, () -> model.isLive(u), () -> real.isLive(u));
        both("cost " + u, () -> model.cost(u), () -> real.cost(u));
        both("costFromEnds " + u, () -> model.cost(u), () -> real.costFromEnds(u));
        both("likeness " + u, () -> model.likeness(u), () -> real.likeness(u));
        both("missing " + u, () -> model.missing(u), () -> real.missing(u));
        both("score " + u, () -> model.score(u), () -> real.score(u));
        both("sharedPairs " + u, () -> model.sharedPairs(u), () -> real.sharedPairs(u));
        both("best", () -> model.best(), () -> real.best());
        both("bestOfAll", () -> model.best(), () -> real.bestOfAll());
        both("meanLikeness", () -> model.meanLikeness(), () -> real.meanLikeness());
    }

    private void compareState() {
        both("units", () -> model.units(), () -> real.units());
        both("segments", () -> model.segments(), () -> real.segments());
        both("repeats", () -> model.repeats(), () -> real.repeats());
        both("openWeight", () -> model.openWeight(), () -> real.openWeight());
        both("filledShare", () -> model.filledShare(), () -> real.filledShare());
        both("isSound", () -> true, () -> real.isSound());
        compareSegment(upTo(model.segments()));
        compareSegment(upTo(model.segments()));
    }

    private void compareSegment(int s) {
        both("stateOf " + s, () -> model.stateOf(s), () -> real.stateOf(s));
        both("unitOf " + s, () -> model.unitOf(s), () -> real.unitOf(s));
        both("scoreOf " + s, () -> model.scoreOf(s), () -> real.scoreOf(s));
        both("segmentLength " + s, () -> model.segmentLength(s), () -> real.segmentLength(s));
        both("targetLength " + s, () -> model.targetLength(s), () -> real.targetLength(s));
        int length = s < 0 || s >= model.segments() ? 1 : model.segmentLength(s);
        for (int i = -1; i <= length; i++) {
            int t = i;
            both("segmentToken " + s + " " + t,
                    () -> model.segmentToken(s, t), () -> real.segmentToken(s, t));
            both("targetToken " + s + " " + t,
                    () -> model.targetToken(s, t), () -> real.targetToken(s, t));
            both("targetKind " + s + " " + t,
                    () -> model.targetKind(s, t), () -> real.targetKind(s, t));
        }
    }
}
