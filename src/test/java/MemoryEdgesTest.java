/**
 * The edges that 'Terms' and promises 8 to 23 and 39 name for abbreviations, terms, units, scores, the
 * best unit, pairs and the mean. Above each test stands the sentence that it is about.
 */
public final class MemoryEdgesTest {
    public static void main(String[] args) {
        wordsOfAbbreviations();
        wordsOfTerms();
        twentyTerms();
        sameTerm();
        numbersOfUnits();
        fortyUnits();
        sourceIsNotThereAnyMore();
        sourceInPlaceOfAnother();
        liveUntilWithdrawn();
        liveUnitsLeft();
        withdrawnUnitsAreCompared();
        correctedTarget();
        missedTerms();
        missedTermsAreCountedOnce();
        tenForEachMissedTerm();
        scoreLessThanZero();
        offeredFromScoreOne();
        offeredIfLive();
        greatestScore();
        greatestLikeness();
        highestNumber();
        bestOfFortyUnits();
        pairs();
        pairsWithoutTags();
        pairsOfNumbers();
        pairsCountOnce();
        meanOfLiveUnits();
        Check.end();
    }

    /** "Returns whether it was none before the call." */
    private static void wordsOfAbbreviations() {
        Fuzzyseg x = new Fuzzyseg();
        for (int word : new int[] {0, 1, 98, 99}) {
            Check.due("8 none before: " + word, true, () -> x.addAbbreviation(word));
            Check.due("8 one before: " + word, false, () -> x.addAbbreviation(word));
        }
        Check.badArgument("8 word -1", () -> x.addAbbreviation(-1));
        Check.badArgument("8 word 100", () -> x.addAbbreviation(100));
    }

    /** "the value of the source word, 0 to 99 ... the value of the target word, 0 to 99" */
    private static void wordsOfTerms() {
        Fuzzyseg x = new Fuzzyseg();
        Check.due("9 both least", 1, () -> x.addTerm(0, 0));
        Check.due("9 both greatest", 2, () -> x.addTerm(99, 99));
        Check.due("9 least and greatest", 3, () -> x.addTerm(0, 99));
        Check.due("9 greatest and least", 4, () -> x.addTerm(99, 0));
        Check.badArgument("9 source -1", () -> x.addTerm(-1, 0));
        Check.badArgument("9 source 100", () -> x.addTerm(100, 0));
        Check.badArgument("9 target -1", () -> x.addTerm(0, -1));
        Check.badArgument("9 target 100", () -> x.addTerm(0, 100));
        Check.due("9 none of these was added", 5, () -> x.addTerm(50, 50));
    }

    /** "if there are 20 terms" */
    private static void twentyTerms() {
        Fuzzyseg x = new Fuzzyseg();
        for (int i = 0; i < 20; i++) {
            int word = i;
            Check.due("9 term " + i, i + 1, () -> x.addTerm(1, 20 + word));
        }
        Check.badState("9 term 20", () -> x.addTerm(1, 40));
        Texts.unit(x, "w1", "w40");
        Texts.put(x, "w1");
        Check.due("19 all twenty count", 20, () -> x.missing(0));
    }

    /** "if there is this term already" */
    private static void sameTerm() {
        Fuzzyseg x = new Fuzzyseg();
        x.addTerm(1, 2);
        Check.unsupported("9 the same", () -> x.addTerm(1, 2));
        Check.due("9 turned round", 2, () -> x.addTerm(2, 1));
        Check.due("9 another target", 3, () -> x.addTerm(1, 3));
        Check.due("9 another source", 4, () -> x.addTerm(3, 2));
        Check.unsupported("9 the last one", () -> x.addTerm(3, 2));
        Check.unsupported("9 the first one still", () -> x.addTerm(1, 2));
    }

    /** "At most 40 units have the numbers 0, 1, 2 and so on." */
    private static void numbersOfUnits() {
        Fuzzyseg x = new Fuzzyseg();
        Check.due("14 none", 0, () -> x.units());
        for (int i = 0; i < 3; i++) {
            Check.due("11 number", i, () -> Texts.unit(x, "w1", "w2"));
            Check.due("14 units", i + 1, () -> x.units());
            x.withdraw(i);
            Check.due("14 withdrawn ones included", i + 1, () -> x.units());
        }
    }

    private static Fuzzyseg withUnits(int count) {
        Fuzzyseg x = new Fuzzyseg();
        Texts.document(x, "w1 ! w2");
        for (int i = 0; i < count; i++) {
            Texts.unit(x, "w1", "w2");
        }
        Texts.put(x, "w3 w4");
        x.takeSource();
        Texts.put(x, "w5");
        return x;
    }

    /** "if the draft is empty, or there are 40 units" */
    private static void fortyUnits() {
        Fuzzyseg adding = withUnits(39);
        Check.due("11 the fortieth", 39, () -> adding.addUnit());
        Check.due("14 forty", 40, () -> adding.units());
        Fuzzyseg answering = withUnits(39);
        Check.due("27 the fortieth", 0, () -> answering.answer(0));
        Check.due("14 forty", 40, () -> answering.units());
        Texts.put(answering, "w1");
        Check.badState("27 the next one", () -> answering.answer(1));
        Check.badState("11 the next one", () -> answering.addUnit());
        Check.due("28 not answered", 'e', () -> answering.stateOf(1));
        Check.due("14 forty still", 40, () -> answering.units());
        Fuzzyseg full = withUnits(40);
        full.withdraw(0);
        Check.badState("11 a withdrawn one counts", () -> full.addUnit());
        Check.badState("27 a withdrawn one counts", () -> full.answer(0));
        Check.due("12 correcting needs no room", 1, () -> full.correct(39));
        Texts.put(full, "w1");
        Check.due("10 taking a source needs no room", 1, () -> full.takeSource());
    }

    /** "the source is not there any more afterwards" */
    private static void sourceIsNotThereAnyMore() {
        Fuzzyseg x = withUnits(0);
        Check.due("11 a source was taken", 0, () -> x.addUnit());
        Texts.put(x, "w5");
        Check.noElement("11 it is used up", () -> x.addUnit());
        Check.due("10 the draft is there still", 1, () -> x.takeSource());
        Check.badState("11 another source is there", () -> x.addUnit());
        Texts.put(x, "w6");
        Check.due("11 with the other source", 1, () -> x.addUnit());
        Texts.put(x, "w5");
        Check.due("16 the first source", 6, () -> x.cost(0));
        Check.due("16 the other source", 0, () -> x.cost(1));
    }

    /** "in place of a source that was taken before" */
    private static void sourceInPlaceOfAnother() {
        Fuzzyseg x = withUnits(0);
        Check.due("10 a shorter one", 1, () -> x.takeSource());
        Texts.put(x, "w7 w8 w9");
        Check.due("10 a longer one", 3, () -> x.takeSource());
        Texts.put(x, "w1");
        x.addUnit();
        Texts.put(x, "w7 w8 w9");
        Check.due("10 the last one counts", 0, () -> x.cost(0));
    }

    /** "It is live until it is withdrawn." */
    private static void liveUntilWithdrawn() {
        Fuzzyseg x = withUnits(40);
        for (int unit : new int[] {0, 1, 38, 39}) {
            Check.due("15 live: " + unit, true, () -> x.isLive(unit));
            x.withdraw(unit);
            Check.due("15 withdrawn: " + unit, false, () -> x.isLive(unit));
            Check.unsupported("13 withdrawn already: " + unit, () -> x.withdraw(unit));
        }
        Check.due("15 the one between", true, () -> x.isLive(2));
        Check.noElement("15 unit -1", () -> x.isLive(-1));
        Check.noElement("15 unit 40", () -> x.isLive(40));
    }

    /** "Returns the number of live units after the call." */
    private static void liveUnitsLeft() {
        Fuzzyseg x = withUnits(40);
        for (int i = 0; i < 40; i++) {
            int unit = i;
            Check.due("13 left", 39 - i, () -> x.withdraw(unit));
        }
    }

    /** "Returns the score, also if the unit is withdrawn." */
    private static void withdrawnUnitsAreCompared() {
        Fuzzyseg x = new Fuzzyseg();
        x.addTerm(1, 5);
        Texts.unit(x, "w1 w2 n3 .", "w4");
        x.withdraw(0);
        Texts.put(x, "w1 w2 n4 .");
        Check.due("16 withdrawn", 1, () -> x.cost(0));
        Check.due("17 withdrawn", 1, () -> x.costFromEnds(0));
        Check.due("18 withdrawn", 90, () -> x.likeness(0));
        Check.due("19 withdrawn", 1, () -> x.missing(0));
        Check.due("20 withdrawn", 80, () -> x.score(0));
        Check.due("21 withdrawn", 3, () -> x.sharedPairs(0));
    }

    /** "Returns the number of tokens of the target before the call." */
    private static void correctedTarget() {
        Fuzzyseg x = new Fuzzyseg();
        Texts.unit(x, "w1", Texts.repeat("w2", 60));
        Texts.unit(x, "w1", "w2");
        Texts.put(x, "w3");
        Check.due("12 sixty before", 60, () -> x.correct(0));
        Texts.put(x, Texts.repeat("w3", 60));
        Check.due("12 one before", 1, () -> x.correct(0));
        Texts.put(x, "w3");
        Check.due("12 sixty again", 60, () -> x.correct(0));
        Texts.put(x, "w3");
        Check.due("12 the other unit's target stays", 1, () -> x.correct(1));
    }

    private static void missed(int want, String text, String target) {
        Fuzzyseg x = new Fuzzyseg();
        x.addTerm(46, 33);
        Texts.unit(x, "w46 w33", target);
        Texts.put(x, text);
        Check.due("19 " + text + " with the target " + target, want, () -> x.missing(0));
    }

    /** "if the text has the source word and the target of the unit does not have the target word" */
    private static void missedTerms() {
        missed(1, "w46", "w34");
        missed(0, "w46", "w33");
        missed(0, "w45", "w34");
        missed(0, "w45", "w33");
        missed(0, "w47", "w34");
        missed(1, "w46", "n33");
        missed(1, "w46", "!");
        missed(1, "w46", "w46");
        missed(0, "n46", "w34");
        missed(0, ".", "w34");
        missed(0, "w33", "w34");
        String many = Texts.repeat("w1", 59);
        missed(1, many + " w46", many + " w2");
        missed(0, many + " w46", many + " w33");
        missed(1, "w46 " + many, many + " w2");
        missed(0, "w46 " + many, "w33 " + many);
    }

    private static void missedTermsAreCountedOnce() {
        missed(1, "w46 w46", "w34 w34");
        missed(0, "w46 w46", "w34 w33");
        Fuzzyseg x = new Fuzzyseg();
        Texts.unit(x, "w1", "w2");
        Texts.put(x, "w46 w47");
        Check.due("19 no terms", 0, () -> x.missing(0));
        x.addTerm(46, 5);
        x.addTerm(46, 6);
        x.addTerm(47, 5);
        Check.due("19 each term", 3, () -> x.missing(0));
    }

    /** A draft with w1 and of all tokens, and unit 0 whose source has so many of them equal. */
    private static Fuzzyseg alike(int equal, int all) {
        Fuzzyseg x = new Fuzzyseg();
        x.setWeights(1, 1, 1, 1);
        String source = "w1 " + "t1 ".repeat(equal - 1) + "t2 ".repeat(all - equal);
        Texts.unit(x, source.trim(), "w99");
        Texts.draft(x, ("w1 " + "t1 ".repeat(all - 1)).trim());
        return x;
    }

    private static void score(int want, int likeness, int terms, Fuzzyseg x) {
        Check.due("18 likeness", likeness, () -> x.likeness(0));
        for (int i = 0; i < terms; i++) {
            x.addTerm(1, i);
        }
        Check.due("19 missing", terms, () -> x.missing(0));
        Check.due("20 likeness " + likeness + ", missing " + terms, want, () -> x.score(0));
    }

    /** "minus 10 for each term that the unit misses for the text" */
    private static void tenForEachMissedTerm() {
        score(100, 100, 0, alike(4, 4));
        score(90, 100, 1, alike(4, 4));
        score(10, 100, 9, alike(4, 4));
        score(40, 50, 1, alike(2, 4));
        score(6, 66, 6, alike(2, 3));
    }

    /** "or 0 if that is less than 0" */
    private static void scoreLessThanZero() {
        score(0, 100, 10, alike(4, 4));
        score(0, 100, 11, alike(4, 4));
        score(0, 100, 20, alike(4, 4));
        score(1, 21, 2, alike(4, 19));
        score(0, 20, 2, alike(4, 20));
        score(0, 19, 2, alike(4, 21));
        score(0, 1, 1, alike(1, 60));
    }

    /** "A unit is offered for a text if it is live and its score is 1 or more." */
    private static void offeredFromScoreOne() {
        Fuzzyseg one = alike(4, 19);
        score(1, 21, 2, one);
        Check.bestIs("score 1", 0, one);
        Fuzzyseg zero = alike(4, 20);
        score(0, 20, 2, zero);
        Check.noBest("score 0", zero);
        Fuzzyseg less = alike(4, 21);
        score(0, 19, 2, less);
        Check.noBest("score 0, less before", less);
        Check.bestIs("likeness 1", 0, alike(1, 60));
        Fuzzyseg unlike = new Fuzzyseg();
        Texts.unit(unlike, "w90", "w1");
        Texts.put(unlike, "w1");
        Check.noBest("likeness 0", unlike);
    }

    private static void offeredIfLive() {
        Fuzzyseg x = alike(4, 4);
        Check.bestIs("live", 0, x);
        x.withdraw(0);
        Check.noBest("withdrawn", x);
    }

    /** Likeness 100 and score 90, likeness 80 and score 80, likeness 90 and score 90, in this order. */
    private static Fuzzyseg ranked(int[] order) {
        Fuzzyseg x = new Fuzzyseg();
        String same = "w1 t1 t2 t3 t4 t5 t6 t7 t8 t9";
        String[] sources = {same, same.replace("t8 t9", "t0 t0"), same.replace("t9", "t0")};
        String[] targets = {"w3", "w2", "w2"};
        x.setWeights(1, 1, 1, 1);
        x.addTerm(1, 2);
        for (int kind : order) {
            Texts.unit(x, sources[kind], targets[kind]);
        }
        Texts.put(x, same);
        return x;
    }

    private static void ranked(int want, int... order) {
        Fuzzyseg x = ranked(order);
        int[] likenesses = {100, 80, 90};
        int[] scores = {90, 80, 90};
        for (int i = 0; i < order.length; i++) {
            int unit = i;
            Check.due("18 rank", likenesses[order[i]], () -> x.likeness(unit));
            Check.due("20 rank", scores[order[i]], () -> x.score(unit));
        }
        Check.bestIs("of " + order.length, want, x);
    }

    /** "the one with the greatest score of those that are offered" */
    private static void greatestScore() {
        ranked(0, 2, 1);
        ranked(1, 1, 2);
        ranked(1, 1, 0);
        ranked(0, 0, 1);
        Fuzzyseg x = new Fuzzyseg();
        x.addTerm(1, 5);
        x.addTerm(1, 6);
        Texts.unit(x, "w1 w2 w3 w4 w5", "w1");
        Texts.unit(x, "w1 w2 w3 w4 w15", "w5 w6");
        Texts.unit(x, "w1 w2 w3 w4 w5", "w1");
        Texts.put(x, "w1 w2 w3 w4 w6");
        Check.due("18 the more alike", 90, () -> x.likeness(0));
        Check.due("18 the less alike", 80, () -> x.likeness(1));
        Check.bestIs("the less alike one, which misses nothing", 1, x);
    }

    /** "of several, the one with the greatest likeness" */
    private static void greatestLikeness() {
        ranked(0, 0, 2);
        ranked(1, 2, 0);
        ranked(1, 2, 0, 2, 1);
    }

    /** "of several, the one with the highest number" */
    private static void highestNumber() {
        ranked(1, 0, 0);
        ranked(2, 0, 0, 0);
        ranked(2, 0, 2, 0, 2);
        ranked(1, 2, 2, 1);
        Fuzzyseg x = ranked(new int[] {0, 0, 0});
        x.withdraw(2);
        Check.bestIs("the highest one is withdrawn", 1, x);
        x.withdraw(1);
        Check.bestIs("only the lowest one is left", 0, x);
        x.withdraw(0);
        Check.noBest("all are withdrawn", x);
    }

    private static void bestOfFortyUnits() {
        Fuzzyseg x = withUnits(40);
        Texts.draft(x, "w1");
        Check.bestIs("the highest of forty", 39, x);
        x.withdraw(39);
        Check.bestIs("the highest that is live", 38, x);
        Texts.draft(x, "w2");
        Check.bestIs("the highest of those half alike", 38, x);
    }

    /** Asks for the draft and the source both ways. */
    private static void pairs(int want, String one, String other) {
        for (String[] texts : new String[][] {{one, other}, {other, one}}) {
            Fuzzyseg x = new Fuzzyseg();
            Texts.unit(x, texts[1], "w1");
            Texts.put(x, texts[0]);
            Check.due("21 " + texts[0] + " and " + texts[1], want, () -> x.sharedPairs(0));
        }
    }

    /** "how many pairs of tokens that stand one directly behind the other are in both" */
    private static void pairs() {
        pairs(0, "w1", "w1");
        pairs(0, "w1", "w1 w1");
        pairs(1, "w1 w2", "w1 w2");
        pairs(2, "w1 w2 w3", "w1 w2 w3");
        pairs(0, "w1 w2", "w2 w1");
        pairs(0, "w1 w2", "w1 w3 w2");
        pairs(1, "w1 w2 w3", "w3 w1 w2");
        pairs(0, "w1 w2", "w1 w12");
        pairs(0, "w46 w1", ". w1");
        pairs(0, "w1 w46", "w1 .");
        pairs(0, "w1 ,", "w1 ;");
        StringBuilder all = new StringBuilder("w0");
        for (int i = 1; i < 60; i++) {
            all.append(" w").append(i);
        }
        pairs(59, all.toString(), all.toString());
    }

    /** "Tags are left out of both texts before" */
    private static void pairsWithoutTags() {
        pairs(1, "w1 t1 w2", "w1 w2");
        pairs(1, "t1 w1 w2 t2", "w1 t3 t4 w2");
        pairs(0, "t1 w1", "t1 w1");
        pairs(0, "t1 t2", "t1 t2");
        pairs(0, "t1", "w1 w2");
        pairs(0, Texts.repeat("t1", 60), Texts.repeat("t1", 60));
        pairs(0, Texts.repeat("t1", 59) + " w1", Texts.repeat("t1", 59) + " w1");
        pairs(1, "w1 " + Texts.repeat("t1", 58) + " w2", "w1 w2");
    }

    /** "all numbers count as equal" */
    private static void pairsOfNumbers() {
        pairs(1, "w1 n0", "w1 n9999");
        pairs(1, "n0 w1", "n9999 w1");
        pairs(1, "n1 n2", "n3 n4");
        pairs(1, "n1 n2 n3", "n4 n5");
        pairs(0, "n1 w1", "w1 n1");
        pairs(0, "w1 n0", "w1 w0");
        pairs(0, "w1 n1", "w1 t1");
    }

    /** "a pair that is several times in a text counts once" */
    private static void pairsCountOnce() {
        pairs(1, "w1 w2 w1 w2", "w1 w2");
        pairs(2, "w1 w2 w1 w2", "w2 w1 w2");
        pairs(1, "w1 w1 w1", "w1 w1");
        pairs(1, Texts.repeat("w1", 60), Texts.repeat("w1", 60));
        pairs(2, Texts.repeat("w1 w2", 30), Texts.repeat("w1 w2", 30));
        pairs(1, "w1 n1 w1 n2", "w1 n3 . w1 n4");
    }

    /** "the sum of the likenesses divided by the number of live units, both converted to double" */
    private static void meanOfLiveUnits() {
        Fuzzyseg x = withUnits(40);
        Texts.draft(x, "w1");
        Check.due("39 forty alike", 100.0, () -> x.meanLikeness());
        Texts.draft(x, "w2");
        Check.due("39 forty half alike", 50.0, () -> x.meanLikeness());
        Texts.draft(x, "w90");
        Check.due("39 none alike", 0.0, () -> x.meanLikeness());
        Fuzzyseg few = new Fuzzyseg();
        Texts.unit(few, "w1", "w1");
        Texts.unit(few, "w2", "w1");
        Texts.unit(few, "w3 w1", "w1");
        Texts.put(few, "w1");
        few.addTerm(1, 50);
        Check.due("39 three, terms do not count", 200.0 / 3.0, () -> few.meanLikeness());
        few.withdraw(0);
        Check.due("39 two", 50.0, () -> few.meanLikeness());
        few.withdraw(1);
        Check.due("39 one", 50.0, () -> few.meanLikeness());
        few.withdraw(2);
        Check.badArithmetic("39 none is live", () -> few.meanLikeness());
    }
}
