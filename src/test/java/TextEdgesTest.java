/**
 * The edges that 'Terms' and promises 1 to 7 name for tokens, texts, the draft, weights, edits and
 * likeness. Above each test stands the sentence that it is about.
 */
public final class TextEdgesTest {
    private static final char[] MARKS = {'.', '!', '?', ',', ';'};

    interface Put {
        int token(Fuzzyseg x, int value);
    }

    interface Take {
        int draft(Fuzzyseg x);
    }

    public static void main(String[] args) {
        valuesOfTokens();
        sixtyTokens();
        equalTokens();
        equalTexts();
        stems();
        lengthsOfTexts();
        draftIsEmptyAtFirst();
        draftIsEmptyAfterwards();
        clearedLengths();
        weightsAtFirst();
        weightsAtTheirEnds();
        halfWeights();
        insertedAndDeleted();
        replacedByTheSameKind();
        notReplacedByAnotherKind();
        equalTokensStay();
        leastSum();
        costAtTheEndsOfLongTexts();
        greaterWeight();
        likenessRoundedDown();
        likenessLessThanZero();
        Check.end();
    }

    private static void ends(String what, Put put, int first, int last) {
        Fuzzyseg x = new Fuzzyseg();
        Check.due(what + " " + first, 1, () -> put.token(x, first));
        Check.due(what + " " + last, 2, () -> put.token(x, last));
        Check.badArgument(what + " below", () -> put.token(x, first - 1));
        Check.badArgument(what + " above", () -> put.token(x, last + 1));
        Check.due(what + " two were put", 1, () -> x.open());
        Check.same(what + " values", first + " " + last, Texts.segment(x, 0));
    }

    /** "a word with a value from 0 to 99, a number with a value from 0 to 9999, a tag with ... 0 to 9" */
    private static void valuesOfTokens() {
        ends("2 word", Fuzzyseg::word, 0, 99);
        ends("3 number", Fuzzyseg::number, 0, 9999);
        ends("4 tag", Fuzzyseg::tag, 0, 9);
        for (char mark : MARKS) {
            Fuzzyseg x = new Fuzzyseg();
            Check.due("5 mark " + mark, 1, () -> x.mark(mark));
            x.open();
            Check.due("5 code of " + mark, (int) mark, () -> x.segmentToken(0, 0));
        }
    }

    private static void upToSixty(String what, Put put, String sixty) {
        Fuzzyseg x = new Fuzzyseg();
        for (int i = 1; i <= 60; i++) {
            Check.due(what + " as token " + i, i, () -> put.token(x, 1));
        }
        Check.badState(what + " as token 61", () -> put.token(x, 1));
        Check.due(what + " open", 1, () -> x.open());
        Check.same(what + " sixty are there", sixty, Texts.segment(x, 0));
        Check.due(what + " room again", 1, () -> put.token(x, 1));
    }

    /** "if the draft has 60 tokens" */
    private static void sixtyTokens() {
        upToSixty("2 word", Fuzzyseg::word, Texts.repeat("1", 60));
        upToSixty("3 number", Fuzzyseg::number, Texts.repeat("1", 60));
        upToSixty("4 tag", Fuzzyseg::tag, Texts.repeat("1", 60));
        upToSixty("5 mark", (x, value) -> x.mark(';'), Texts.repeat("59", 60));
    }

    /** Looks at the same two texts as segments, both ways. */
    private static void areEqual(boolean want, String one, String other) {
        Fuzzyseg x = new Fuzzyseg();
        Texts.document(x, "w50 " + one + " ! w50 " + other + " !");
        Check.due("equal: " + one + " and " + other, want ? 1 : 0, () -> x.repeats());
        Texts.document(x, "w50 " + other + " ! w50 " + one + " !");
        Check.due("equal: " + other + " and " + one, want ? 1 : 0, () -> x.repeats());
    }

    /** "Two tokens are equal if they are of the same kind and have the same value, or are the same mark." */
    private static void equalTokens() {
        for (String token : new String[] {"w0", "w99", "n0", "n9999", "t0", "t9", ",", ";"}) {
            areEqual(true, token, token);
        }
        areEqual(false, "w5", "w6");
        areEqual(false, "n9998", "n9999");
        areEqual(false, "t8", "t9");
        areEqual(false, ",", ";");
        areEqual(false, "w5", "n5");
        areEqual(false, "w5", "t5");
        areEqual(false, "n5", "t5");
        areEqual(false, "w0", "n0");
        areEqual(false, "w44", ",");
        areEqual(false, "n44", ",");
        areEqual(false, "n59", ";");
    }

    /** "Two texts are equal if they have the same length and equal tokens at each place." */
    private static void equalTexts() {
        areEqual(true, "w1 n2 t3 ,", "w1 n2 t3 ,");
        areEqual(false, "w1 n2 t3", "w1 n2 t3 ,");
        areEqual(false, "w9 n2 t3 ,", "w1 n2 t3 ,");
        areEqual(false, "w1 n9 t3 ,", "w1 n2 t3 ,");
        areEqual(false, "w1 n2 t3 ;", "w1 n2 t3 ,");
        areEqual(false, "w1 w2", "w2 w1");
        areEqual(false, "w1 w1", "w1");
        String many = Texts.repeat("w1", 27);
        areEqual(true, many + " w2", many + " w2");
        areEqual(false, many + " w2", many + " w3");
    }

    private static void sameStem(boolean want, int one, int other) {
        cost(want ? 2 : 4, "w" + one, "w" + other);
    }

    /** "The stem of a word is its value divided by 10, rounded down." */
    private static void stems() {
        for (int stem = 0; stem < 10; stem++) {
            sameStem(true, 10 * stem, 10 * stem + 9);
            if (stem > 0) {
                sameStem(false, 10 * stem - 1, 10 * stem);
            }
        }
        sameStem(false, 1, 11);
        sameStem(false, 0, 99);
    }

    private static Fuzzyseg withDraftOf(int length) {
        Fuzzyseg x = new Fuzzyseg();
        Texts.unit(x, "w1", "w2");
        Texts.document(x, "w3");
        Texts.put(x, "w4");
        x.takeSource();
        for (int i = 0; i < length; i++) {
            x.word(i);
        }
        return x;
    }

    private static void lengths(String what, Take take, Take ask) {
        Check.badState(what + ", 0 tokens", () -> take.draft(withDraftOf(0)));
        for (int length : new int[] {1, 2, 59, 60}) {
            Fuzzyseg x = withDraftOf(length);
            take.draft(x);
            Check.due(what + ", the draft afterwards", 0, () -> x.clear());
            Check.due(what + ", tokens", length, () -> ask.draft(x));
        }
    }

    private static int correctAgain(Fuzzyseg x, int unit) {
        x.word(1);
        return x.correct(unit);
    }

    private static int lengthOfSource(Fuzzyseg x) {
        x.word(0);
        int unit = x.addUnit();
        x.word(0);
        // A word weighs 4, and the first one is equal.
        return x.cost(unit) / 4 + 1;
    }

    /** "A text is a row of 1 to 60 tokens." */
    private static void lengthsOfTexts() {
        lengths("10 takeSource", Fuzzyseg::takeSource, TextEdgesTest::lengthOfSource);
        lengths("11 addUnit", Fuzzyseg::addUnit, x -> correctAgain(x, 1));
        lengths("12 correct", x -> x.correct(0), x -> correctAgain(x, 0));
        lengths("24 open", Fuzzyseg::open, x -> x.segmentLength(0));
        lengths("27 answer", x -> x.answer(0), x -> x.targetLength(0));
        for (int length : new int[] {1, 2, 59, 60}) {
            Check.due("10 takeSource, returned", length, () -> withDraftOf(length).takeSource());
        }
    }

    /** "The draft is a row of 0 to 60 tokens, empty at first." */
    private static void draftIsEmptyAtFirst() {
        Check.due("6 a new draft", 0, () -> new Fuzzyseg().clear());
        Check.due("2 the first token of a new draft", 1, () -> new Fuzzyseg().word(0));
        Check.badState("24 a new draft", () -> new Fuzzyseg().open());
    }

    /** "Where a call takes the draft as a text, the draft is empty afterwards." */
    private static void draftIsEmptyAfterwards() {
        Take[] takes = {Fuzzyseg::takeSource, Fuzzyseg::addUnit, x -> x.correct(0), Fuzzyseg::open,
            x -> x.answer(0)};
        for (int i = 0; i < takes.length; i++) {
            Take take = takes[i];
            Fuzzyseg x = withDraftOf(60);
            take.draft(x);
            Check.due("the first token after taking, call " + i, 1, () -> x.word(1));
        }
    }

    /** "Makes the draft empty. Returns the number of tokens that it had." */
    private static void clearedLengths() {
        for (int length : new int[] {0, 1, 59, 60}) {
            Fuzzyseg x = withDraftOf(length);
            Check.due("6 clear", length, () -> x.clear());
            Check.due("6 clear again", 0, () -> x.clear());
            Check.due("6 room for the first token", 1, () -> x.word(1));
        }
    }

    private static void weightOf(Fuzzyseg x, long want, String token) {
        Texts.document(x, token);
        Check.due("the weight of " + token, want, () -> x.openWeight());
    }

    /** "at first words 4, numbers 2, tags 1, marks 1" */
    private static void weightsAtFirst() {
        Fuzzyseg x = new Fuzzyseg();
        weightOf(x, 4, "w0");
        weightOf(x, 4, "w99");
        weightOf(x, 2, "n0");
        weightOf(x, 2, "n9999");
        weightOf(x, 1, "t0");
        weightOf(x, 1, "t9");
        for (char mark : MARKS) {
            weightOf(x, 1, "" + mark);
        }
    }

    private static void weights(int word, int number, int tag, int mark) {
        Fuzzyseg x = new Fuzzyseg();
        Check.due("7 words before", 4, () -> x.setWeights(word, number, tag, mark));
        weightOf(x, word, "w1");
        weightOf(x, number, "n1");
        weightOf(x, tag, "t1");
        weightOf(x, mark, ",");
        Check.due("7 words before, again", word, () -> x.setWeights(5, 5, 5, 5));
    }

    private static void noWeights(int word, int number, int tag, int mark) {
        Fuzzyseg x = new Fuzzyseg();
        Check.badArgument("7 out of range", () -> x.setWeights(word, number, tag, mark));
        weightOf(x, 8, "w1 n1 t1 ,");
    }

    /** "the weight of words, 1 to 9" and the same for numbers, tags and marks */
    private static void weightsAtTheirEnds() {
        weights(1, 9, 9, 9);
        weights(9, 1, 9, 9);
        weights(9, 9, 1, 9);
        weights(9, 9, 9, 1);
        weights(9, 1, 1, 1);
        weights(1, 9, 1, 1);
        weights(1, 1, 9, 1);
        weights(1, 1, 1, 9);
        for (int bad : new int[] {0, 10}) {
            noWeights(bad, 1, 9, 1);
            noWeights(1, bad, 1, 9);
            noWeights(9, 1, bad, 1);
            noWeights(1, 9, 1, bad);
        }
    }

    /** Asks for the cost in both ways, and from each text to the other. */
    private static void cost(int want, String one, String other, int... weights) {
        for (String[] pair : new String[][] {{one, other}, {other, one}}) {
            Fuzzyseg x = new Fuzzyseg();
            if (weights.length == 4) {
                x.setWeights(weights[0], weights[1], weights[2], weights[3]);
            }
            Texts.unit(x, pair[1], "w1");
            Texts.put(x, pair[0]);
            // First the way back, so that nothing is there yet that the other way leaves.
            Check.due("17 " + pair[0] + " to " + pair[1], want, () -> x.costFromEnds(0));
            Check.due("16 " + pair[0] + " to " + pair[1], want, () -> x.cost(0));
        }
    }

    /** "Half a weight is the weight divided by 2, rounded up." */
    private static void halfWeights() {
        int[] halves = {1, 1, 2, 2, 3, 3, 4, 4, 5};
        for (int weight = 1; weight <= 9; weight++) {
            int half = halves[weight - 1];
            cost(half, "w1", "w2", weight, 9, 9, 9);
            cost(half, "n1", "n2", 9, weight, 9, 9);
        }
    }

    /** "To insert or delete a token costs the weight of its kind." */
    private static void insertedAndDeleted() {
        cost(9, "n1 w1 n2", "n1 n2", 9, 7, 5, 3);
        cost(7, "w1 n1 w20", "w1 w20", 9, 7, 5, 3);
        cost(5, "w1 t1 w20", "w1 w20", 9, 7, 5, 3);
        cost(3, "w1 , w20", "w1 w20", 9, 7, 5, 3);
        cost(3, "; w1", "w1", 9, 7, 5, 3);
        cost(3, "w1 .", "w1", 9, 7, 5, 3);
        cost(12, "w1 n1 t1", "n1", 9, 7, 3, 5);
    }

    /** "a word by a word with the same stem for half the weight, ... a tag by a tag and a mark by a mark" */
    private static void replacedByTheSameKind() {
        cost(5, "w1", "w2", 9, 7, 5, 3);
        cost(9, "w1", "w12", 9, 7, 5, 3);
        cost(4, "n1", "n1001", 9, 7, 5, 3);
        cost(4, "n0", "n9999", 9, 7, 5, 3);
        cost(5, "t0", "t1", 9, 7, 5, 3);
        cost(3, ",", ";", 9, 7, 5, 3);
        cost(1, "t0", "t9", 9, 9, 1, 9);
        cost(1, "!", ".", 9, 9, 9, 1);
    }

    /** "A token can be replaced by another one of the same kind" */
    private static void notReplacedByAnotherKind() {
        cost(16, "w1", "n1", 9, 7, 5, 3);
        cost(14, "w1", "t1", 9, 7, 5, 3);
        cost(12, "w44", ",", 9, 7, 5, 3);
        cost(12, "n1", "t1", 9, 7, 5, 3);
        cost(10, "n44", ",", 9, 7, 5, 3);
        cost(8, "t1", ",", 9, 7, 5, 3);
        cost(18, "w1", "n1", 9, 9, 9, 9);
        cost(2, "t1", "!", 1, 1, 1, 1);
    }

    /** "Equal tokens stay for nothing." */
    private static void equalTokensStay() {
        for (String token : new String[] {"w0", "w99", "n0", "n9999", "t0", "t9", ".", "!", "?", ",", ";"}) {
            cost(0, token, token, 9, 9, 9, 9);
        }
        cost(0, "w1 n2 t3 ,", "w1 n2 t3 ,", 9, 9, 9, 9);
    }

    /** "The cost of two texts is the least sum of costs by which the first one becomes the second one." */
    private static void leastSum() {
        cost(8, "w10 w20 w30", "w30 w10 w20");
        cost(2, "w1 t1", "t1 w1");
        cost(4, "w10 w20", "w20");
        cost(6, "w10 w20", "w21");
        cost(6, "w10 w11", "w12");
        cost(2, "n1 w1", "w1");
        cost(7, "w10 n1 w20 ,", "n2 w20 ; t1 w11", 2, 2, 1, 1);
    }

    private static void costAtTheEndsOfLongTexts() {
        String many = Texts.repeat("w1", 59);
        cost(236, many + " w1", "w1");
        cost(2, "w2 " + many, "w1 " + many);
        cost(2, many + " w2", many + " w1");
        cost(4, "w20 " + many, many);
        cost(4, many + " w20", many);
        cost(1080, Texts.repeat("w1", 60), Texts.repeat("n1", 60), 9, 9, 9, 9);
        cost(540, Texts.repeat("t1", 60), Texts.repeat("t2", 60), 9, 9, 9, 9);
    }

    private static void likeness(int want, String text, String source) {
        Fuzzyseg x = new Fuzzyseg();
        Texts.unit(x, source, "w1");
        Texts.put(x, text);
        Check.due("18 " + text + " and " + source, want, () -> x.likeness(0));
        Check.due("20 " + text + " and " + source, want, () -> x.score(0));
    }

    /** "Their weight is the greater one of the sums of the weights of all tokens" */
    private static void greaterWeight() {
        likeness(20, "w1", "w1 w20 w30 w40 w50");
        likeness(20, "w1 w20 w30 w40 w50", "w1");
        likeness(62, "w1 t1", "w1 t1 n5 ,");
        likeness(62, "w1 t1 n5 ,", "w1 t1");
        likeness(80, "t1 t2 t3 t4 t5", "t1 t2 t3 t4 t6");
    }

    /** "100 times the weight minus the cost, divided by the weight and rounded down" */
    private static void likenessRoundedDown() {
        String many = Texts.repeat("w1", 59);
        likeness(100, many + " t1", many + " t1");
        // 99.57 and 99.16: both less than 100.
        likeness(99, many + " t1", many + " t2");
        likeness(99, many + " n1", many);
        likeness(98, many + " w20", many);
        // 1 of 237: 0.42.
        likeness(0, many + " t1", Texts.repeat("w90", 59) + " t1");
        likeness(33, "t1 t2 t3", "t1 t4 t5");
        likeness(66, "t1 t2 t3", "t1 t2 t5");
    }

    /** "or 0 if that is less than 0" */
    private static void likenessLessThanZero() {
        // The weight is 5, the cost 4, 5 and 6.
        likeness(20, "w1 t1", "w11 t1");
        likeness(0, "w1 t1", "w11 t2");
        likeness(0, "w1 t1", "w11 ,");
        // The weight is 4, the cost 8: -100.
        likeness(0, "n1 n2", "w1");
        likeness(0, Texts.repeat("w1", 60), Texts.repeat("n1", 60));
    }
}
