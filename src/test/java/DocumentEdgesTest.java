/**
 * The edges that 'Terms' and promises 24 to 38 and 40 name for documents, filling and answers. Above each
 * test stands the sentence that it is about.
 */
public final class DocumentEdgesTest {
    public static void main(String[] args) {
        marksThatEnd();
        fullStopBehindAbbreviation();
        fullStopBetweenNumbers();
        fullStopAtTheEdges();
        tagsBehindTheEnd();
        lastSegment();
        allTokensInOrder();
        oneAndSixtySegments();
        documentInPlaceOfAnother();
        laterAbbreviation();
        withoutDocument();
        thresholds();
        thresholdAndScore();
        exactOnlyAtScoreOneHundred();
        scoreThatItHad();
        onlyEmptySegmentsAreFilled();
        repeatedInFilling();
        lowestNumberedTarget();
        stayingEmpty();
        adaptedIfEquallyMany();
        adaptedAtTheSamePlace();
        adaptedNumbersOnly();
        filledStaysAsItIs();
        answeredSegments();
        answerAddsUnit();
        othersThatGetTheAnswer();
        answeredOnesKeepTheirTarget();
        lengthsOfSegmentsAndTargets();
        firstAndLastTokens();
        kindsAndCodes();
        repeatsCounted();
        openWeights();
        filledShares();
        soundInEachScene();
        Check.end();
    }

    /** The segments as values, the codes of marks among them, with a bar between. */
    private static void cut(String want, String document, int... abbreviations) {
        Fuzzyseg x = new Fuzzyseg();
        for (int word : abbreviations) {
            x.addAbbreviation(word);
        }
        int segments = Texts.document(x, document);
        StringBuilder got = new StringBuilder();
        for (int i = 0; i < segments; i++) {
            got.append(i == 0 ? "" : " | ").append(Texts.segment(x, i));
        }
        Check.same("24 " + document, want, got.toString());
        Check.due("25 " + document, segments, () -> x.segments());
        Check.same("28 " + document, "e".repeat(segments), Texts.states(x));
    }

    /** "A mark '!' or '?' ends a segment." */
    private static void marksThatEnd() {
        cut("1 33 | 2", "w1 ! w2");
        cut("1 63 | 2", "w1 ? w2");
        cut("1 46 | 2", "w1 . w2");
        cut("1 44 2", "w1 , w2");
        cut("1 59 2", "w1 ; w2");
        cut("1 33 | 2", "n1 ! n2");
        cut("1 63 | 2", "n1 ? n2");
        cut("4 33 | 2", "w4 ! w2", 4);
        cut("4 63 | 2", "w4 ? w2", 4);
        cut("33 2", "n33 w2");
        cut("33 2", "w33 w2");
        cut("46 46 2", "w46 n46 w2");
    }

    /** "except if the token directly before it is an abbreviation" */
    private static void fullStopBehindAbbreviation() {
        cut("4 46 | 5", "w4 . w5");
        cut("4 46 5", "w4 . w5", 4);
        cut("3 46 | 4 46 5 46 | 6", "w3 . w4 . w5 . w6", 4);
        cut("0 46 99 46 1", "w0 . w99 . w1", 0, 99);
        cut("1 46 | 98 46 | 1", "w1 . w98 . w1", 0, 99);
        cut("4 5 46 | 6", "w4 w5 . w6", 4);
        cut("4 1 46 | 6", "w4 t1 . w6", 4);
        cut("4 44 46 | 6", "w4 , . w6", 4);
        cut("4 46 46 | 6", "w4 . . w6", 4);
        cut("4 46 | 6", "n4 . w6", 4);
        cut("4 46 | 6", "t4 . w6", 4);
        cut("46 | 46 | 6", ". . w6", 46);
        cut("46 4 | 4", ". t4 w4", 4);
        cut("4 46 5", "w4 . n5", 4);
        cut("4 46 5 6", "w4 . t5 w6", 4);
    }

    /** "or if the tokens directly before and directly behind it are numbers" */
    private static void fullStopBetweenNumbers() {
        cut("1 46 2", "n1 . n2");
        cut("1 46 2 46 3", "n1 . n2 . n3");
        cut("1 46 | 2", "n1 . w2");
        cut("1 46 | 2", "w1 . n2");
        cut("1 46 | 46 | 2", "n1 . . n2");
        cut("1 5 46 | 2", "n1 t5 . n2");
        cut("1 46 5 | 2", "n1 . t5 n2");
        cut("1 46 | 44 2", "n1 . , n2");
        cut("1 2 46 | 3", "n1 w2 . n3");
        cut("1 46 | 2 3", "n1 . w2 n3");
        cut("0 46 9999", "n0 . n9999");
    }

    private static void fullStopAtTheEdges() {
        cut("46", ".");
        cut("46 | 1", ". n1");
        cut("1 46", "n1 .");
        cut("1 46", "w1 .");
        cut("4 46", "w4 .", 4);
        cut("46 | 4", ". w4", 4);
        cut("1 33 | 46 | 2", "n1 ! . n2");
        cut("4 33 | 46 | 2", "w4 ! . w2", 4);
    }

    /** "All tags that stand one after another directly behind a mark that ends a segment" */
    private static void tagsBehindTheEnd() {
        cut("1 33 | 2", "w1 ! w2");
        cut("1 33 5 | 2", "w1 ! t5 w2");
        cut("1 33 5 6 | 2", "w1 ! t5 t6 w2");
        cut("1 63 5 6 7", "w1 ? t5 t6 t7");
        cut("1 46 5 | 2 6 3", "w1 . t5 w2 t6 w3");
        cut("1 33 5 | 44 6 2", "w1 ! t5 , t6 w2");
        cut("1 33 5 | 33 6 | 2", "w1 ! t5 ! t6 w2");
        cut("1 33 5 | 46 6 | 2", "w1 ! t5 . t6 w2");
        cut("1 33 | 63 5 | 2", "w1 ! ? t5 w2");
        cut("1 33 | 5 2", "w1 ! n5 w2");
        cut("1 44 5 2", "w1 , t5 w2");
        cut("5 6 1 33", "t5 t6 w1 !");
        cut("33 " + Texts.repeat("1", 59), "! " + Texts.repeat("t1", 59));
        cut("33 " + Texts.repeat("1", 58) + " | 2", "! " + Texts.repeat("t1", 58) + " w2");
    }

    /** "The last segment ends with the document." */
    private static void lastSegment() {
        cut("1", "w1");
        cut("1", "t1");
        cut("44", ",");
        cut("1 33", "w1 !");
        cut("1 33 5", "w1 ! t5");
        cut("1 33 | 2", "w1 ! w2");
        cut("1 33 | 2 3 44", "w1 ! w2 w3 ,");
        cut("4 46", "w4 .", 4);
        cut("1 33 | 4 46", "w1 ! w4 .", 4);
    }

    /** "which are texts and together have all its tokens in their order" */
    private static void allTokensInOrder() {
        cut("1 2 3 44 59 46 | 4 33 5 | 6 63", "w1 n2 t3 , ; . w4 ! t5 n6 ?");
        cut("33 | 63 | 46 | 44 59", "! ? . , ;");
        cut(Texts.repeat("1", 60), Texts.repeat("w1", 60));
        cut(Texts.repeat("1", 59) + " 33", Texts.repeat("w1", 59) + " !");
        cut(Texts.repeat("1", 58) + " 33 | 2", Texts.repeat("w1", 58) + " ! w2");
    }

    private static void oneAndSixtySegments() {
        Fuzzyseg x = new Fuzzyseg();
        Check.due("24 one", 1, () -> Texts.document(x, "!"));
        Check.due("25 one", 1, () -> x.segments());
        Check.due("24 sixty", 60, () -> Texts.document(x, Texts.repeat("!", 60)));
        Check.due("25 sixty", 60, () -> x.segments());
        Check.due("31 the last one", 1, () -> x.segmentLength(59));
        Check.badIndex("31 behind the last one", () -> x.segmentLength(60));
        x.word(1);
        Check.due("27 all others", 59, () -> x.answer(59));
    }

    /** "Takes the draft as a document, in place of the one before" */
    private static void documentInPlaceOfAnother() {
        Fuzzyseg x = new Fuzzyseg();
        Texts.document(x, "w1 ! w2 ! w3");
        Texts.answer(x, 0, "w9");
        Texts.document(x, "w1 ! w2");
        Check.due("25 fewer", 2, () -> x.segments());
        Check.same("28 all are empty", "ee", Texts.states(x));
        Check.badIndex("28 a segment of the one before", () -> x.stateOf(2));
        Check.noElement("33 the target of the one before", () -> x.targetLength(0));
        Check.due("14 the unit stays", 1, () -> x.units());
        Texts.document(x, "w1 ! w2 ! w3 ! w4");
        Check.due("25 more", 4, () -> x.segments());
        Check.same("28 all are empty, again", "eeee", Texts.states(x));
    }

    /** "A document that is cut already stays as it is." */
    private static void laterAbbreviation() {
        Fuzzyseg x = new Fuzzyseg();
        Texts.document(x, "w4 . w5");
        x.addAbbreviation(4);
        Check.due("8 the document stays", 2, () -> x.segments());
        Check.same("8 its first segment stays", "4 46", Texts.segment(x, 0));
        Check.due("8 the next document", 1, () -> Texts.document(x, "w4 . w5"));
        Check.due("8 an abbreviation still", 1, () -> Texts.document(x, "w4 . w5"));
    }

    /** "Returns the number of segments, 0 without a document." */
    private static void withoutDocument() {
        Fuzzyseg x = new Fuzzyseg();
        Texts.unit(x, "w1", "w2");
        Check.due("25 none", 0, () -> x.segments());
        Check.due("26 none", 0, () -> x.fill(1));
        Check.due("36 none", 0, () -> x.repeats());
        Check.due("37 none", 0L, () -> x.openWeight());
        Check.badArithmetic("38 none", () -> x.filledShare());
        Check.due("40 none", true, () -> x.isSound());
        Check.badIndex("28 none", () -> x.stateOf(0));
    }

    /** "the threshold, 1 to 100" */
    private static void thresholds() {
        for (int threshold : new int[] {1, 2, 99, 100}) {
            Fuzzyseg x = new Fuzzyseg();
            Texts.unit(x, "w1", "w2");
            Texts.document(x, "w1");
            Check.due("26 threshold " + threshold, 1, () -> x.fill(threshold));
        }
        for (int threshold : new int[] {0, 101}) {
            Fuzzyseg x = new Fuzzyseg();
            Texts.unit(x, "w1", "w2");
            Texts.document(x, "w1");
            Check.badArgument("26 threshold " + threshold, () -> x.fill(threshold));
            Check.due("26 it stays empty", 'e', () -> x.stateOf(0));
        }
    }

    private static void filledUpTo(int score, String document, String source, int... terms) {
        for (int threshold : new int[] {score - 1, score, score + 1}) {
            if (threshold >= 1 && threshold <= 100) {
                Fuzzyseg x = new Fuzzyseg();
                for (int target : terms) {
                    x.addTerm(1, target);
                }
                Texts.unit(x, source, "w2");
                Texts.document(x, document);
                int want = threshold <= score ? 1 : 0;
                Check.due("26 score " + score + ", threshold " + threshold, want, () -> x.fill(threshold));
                Check.due("28 score " + score + ", threshold " + threshold, want == 0,
                        () -> x.stateOf(0) == 'e');
            }
        }
    }

    /** "if there is a best unit for it with a score of at least the threshold" */
    private static void thresholdAndScore() {
        String many = Texts.repeat("w1", 59);
        filledUpTo(100, "w1", "w1");
        filledUpTo(99, many + " t1", many + " t2");
        filledUpTo(98, many + " w20", many);
        filledUpTo(50, "w1", "w3");
        filledUpTo(90, "w1", "w1", 50);
        filledUpTo(80, "w1", "w1", 50, 51);
        filledUpTo(40, "w1", "w3", 50);
        filledUpTo(1, "t1", Texts.repeat("t1", 60));
        filledUpTo(0, "t1", "w90");
        filledUpTo(0, "w1", "w1", 50, 51, 52, 53, 54, 55, 56, 57, 58, 59);
    }

    private static void stateAndScore(char state, int score, String document, String source) {
        Fuzzyseg x = new Fuzzyseg();
        Texts.unit(x, source, "w2");
        Texts.document(x, document);
        x.fill(1);
        Check.due("28 " + document + " by " + source, state, () -> x.stateOf(0));
        Check.due("29 " + document + " by " + source, 0, () -> x.unitOf(0));
        Check.due("30 " + document + " by " + source, score, () -> x.scoreOf(0));
    }

    /** "'x' if it is filled by a unit that had the score 100, 'f' if it is filled by another unit" */
    private static void exactOnlyAtScoreOneHundred() {
        String many = Texts.repeat("w1", 59);
        stateAndScore('x', 100, "w1", "w1");
        stateAndScore('x', 100, many + " t1", many + " t1");
        stateAndScore('f', 99, many + " t1", many + " t2");
        stateAndScore('f', 99, many + " n1", many);
        stateAndScore('f', 1, "t1", Texts.repeat("t1", 60));
        Fuzzyseg x = new Fuzzyseg();
        x.addTerm(1, 50);
        Texts.unit(x, "w1", "w2");
        Texts.document(x, "w1");
        x.fill(1);
        Check.due("28 equal, but missed", 'f', () -> x.stateOf(0));
        Check.due("30 equal, but missed", 90, () -> x.scoreOf(0));
    }

    /** "Returns the score that the unit had when the segment was filled by it." */
    private static void scoreThatItHad() {
        Fuzzyseg x = new Fuzzyseg();
        Texts.unit(x, "w1 t1", "w2");
        Texts.document(x, "w1 t1 ! w1 t2 ,");
        x.fill(1);
        Check.same("28 before", "ff", Texts.states(x));
        Check.due("30 before", 83, () -> x.scoreOf(0));
        Check.due("30 before", 66, () -> x.scoreOf(1));
        x.setWeights(1, 1, 9, 9);
        x.addTerm(1, 50);
        Texts.put(x, "w7");
        x.correct(0);
        Texts.unit(x, "w1 t1 !", "w50");
        x.withdraw(0);
        x.fill(1);
        Check.due("29 the unit that it was", 0, () -> x.unitOf(0));
        Check.due("30 the score that it was", 83, () -> x.scoreOf(0));
        Check.due("30 the score that it was", 66, () -> x.scoreOf(1));
    }

    /** "Fills empty segments ... Returns the number of segments that were empty before the call" */
    private static void onlyEmptySegmentsAreFilled() {
        Fuzzyseg x = new Fuzzyseg();
        Texts.unit(x, "w1 !", "w2");
        Texts.document(x, "w1 ! w90 n1 ! w95 n1 ! w1 !");
        Texts.answer(x, 2, "w9");
        Check.due("26 two of three", 2, () -> x.fill(100));
        Check.same("28 the states", "xear", Texts.states(x));
        Check.due("26 none of one", 0, () -> x.fill(100));
        Texts.unit(x, "w1 !", "w3");
        Texts.unit(x, "w95 n1 !", "w3");
        Check.due("26 the last one", 1, () -> x.fill(1));
        Check.same("28 all the states", "xfar", Texts.states(x));
        Check.due("29 not filled again", 0, () -> x.unitOf(0));
        Check.same("34 not filled again", "w9", Texts.target(x, 2));
        Check.due("26 none is left", 0, () -> x.fill(1));
    }

    /** "If a segment with a lower number is equal to it and is not empty at that time" */
    private static void repeatedInFilling() {
        Fuzzyseg x = new Fuzzyseg();
        Texts.unit(x, "w1 n1 !", "w2 n1");
        Texts.document(x, "w1 n2 ! w1 n2 ! w1 n3 ! w1 n2 !");
        Check.due("26 all", 4, () -> x.fill(1));
        Check.same("28 the first of equal ones is filled", "frfr", Texts.states(x));
        Check.same("34 the first one", "w2 n2", Texts.target(x, 0));
        Check.same("34 the next one", "w2 n2", Texts.target(x, 1));
        Check.same("34 another one", "w2 n3", Texts.target(x, 2));
        Check.same("34 the last one", "w2 n2", Texts.target(x, 3));
        Texts.document(x, "w90 ! w90 ! w90 !");
        Check.due("26 a lower one that is empty does not count", 0, () -> x.fill(100));
        Check.same("28 all stay empty", "eee", Texts.states(x));
    }

    /** "gets the target of the lowest-numbered such segment" */
    private static void lowestNumberedTarget() {
        Fuzzyseg x = new Fuzzyseg();
        Texts.unit(x, "w1 !", "w2");
        Texts.document(x, Texts.repeat("w1 !", 30));
        Check.due("26 thirty", 30, () -> x.fill(100));
        Check.same("28 thirty", "x" + "r".repeat(29), Texts.states(x));
        Check.same("34 the last one", "w2", Texts.target(x, 29));
        Check.noElement("29 repeated", () -> x.unitOf(29));
        Check.noElement("30 repeated", () -> x.scoreOf(29));
    }

    /** "Otherwise it stays empty." */
    private static void stayingEmpty() {
        Fuzzyseg x = new Fuzzyseg();
        Texts.document(x, "w1 ! w2 !");
        Check.due("26 no units", 0, () -> x.fill(1));
        Texts.unit(x, "w90", "w2");
        Check.due("26 none is offered", 0, () -> x.fill(1));
        Texts.unit(x, "w1 !", "w2");
        x.withdraw(1);
        Check.due("26 the best one is withdrawn", 0, () -> x.fill(100));
        Check.same("28 empty", "ee", Texts.states(x));
        Check.noElement("33 no target", () -> x.targetLength(0));
        Check.noElement("29 no unit", () -> x.unitOf(0));
        Check.noElement("30 no score", () -> x.scoreOf(0));
    }

    private static void adapted(String want, String source, String target, String segment) {
        Fuzzyseg x = new Fuzzyseg();
        Texts.unit(x, source, target);
        Texts.document(x, segment);
        x.fill(1);
        Check.due("26 " + segment + " by " + source, want, () -> Texts.target(x, 0));
    }

    /** "if the segment and the source of the unit have equally many tokens that are numbers" */
    private static void adaptedIfEquallyMany() {
        adapted("n1 w9", "w1", "n1 w9", "w1");
        adapted("n1 w9", "w1", "n1 w9", "w1 n2");
        adapted("n1 w9", "w1 n1", "n1 w9", "w1");
        adapted("n2 w9", "w1 n1", "n1 w9", "w1 n2");
        adapted("n1 w9", "w1 n1", "n1 w9", "w1 n2 n3");
        adapted("n1 n2", "w1 n1 n2", "n1 n2", "w1 n3");
        adapted("n3 n4", "w1 n1 n2", "n1 n2", "w1 n3 n4");
        adapted("n1 n2", "w1 n1 n2", "n1 n2", "w1 n3 n4 n5");
        adapted("n1 n1", "w1 n1 n1", "n1 n1", "w1 n3");
        adapted("n3 n3", "w1 n1 n1", "n1 n1", "w1 n3 n4");
        String old = Texts.repeat("n1", 60);
        adapted(Texts.repeat("n2", 60), old, old, Texts.repeat("n2", 60));
        adapted(old, old, old, Texts.repeat("n2", 59));
    }

    /** "the same place among the numbers of the segment as the first such number has" */
    private static void adaptedAtTheSamePlace() {
        adapted("w70 n8 w81 .", "w12 n5 w30 .", "w70 n5 w81 .", "w13 n8 w30 .");
        adapted("n8 , n7 n6 n9", "n1 t1 n2 w1 n3", "n3 , n2 n1 n9", "n6 n7 w1 n8");
        adapted("n7 n8 n9", "n1 n2 n3", "n1 n2 n3", "n7 n8 n9");
        adapted("n9 n8 n7", "n1 n2 n3", "n3 n2 n1", "n7 n8 n9");
        adapted("n2 n1", "n1 n2", "n1 n2", "n2 n1");
        adapted("n2 n3 n1", "n1 n2 n3", "n1 n2 n3", "n2 n3 n1");
        adapted("n7 n7", "n1 n2 n1", "n1 n1", "n7 n8 n9");
        adapted("n7 n8", "n1 n2 n1", "n1 n2", "n7 n8 n9");
        adapted("n8 n8", "w1 n5 t1 n6 , n6", "n6 n6", "n7 w1 n8 n9 t2 ;");
        adapted("n5 n5", "n1 n2", "n1 n2", "n5 n5");
        adapted("n5 n5", "n1 n1", "n1 n1", "n5 n6");
        adapted("n0 n9999", "n9999 n0", "n9999 n0", "n0 n9999");
    }

    /** "each number of the target of the unit that is equal to a number of the source" */
    private static void adaptedNumbersOnly() {
        adapted("n7 w7 t7 n4", "w1 n7", "n7 w7 t7 n4", "w1 n7");
        adapted("n8 w7 t7 n4", "w1 n7", "n7 w7 t7 n4", "w1 n8");
        adapted("w46 .", "w1 n46", "w46 .", "w1 n8");
        adapted("n8 .", "w1 n46", "n46 .", "w1 n8");
        adapted("n3 n5", "w3 n4", "n3 n4", "w3 n5");
        adapted("n4", "w1 n3", "n4", "w1 n5");
        adapted("w1 t1 n0", "w1 n1", "w1 t1 n1", "w1 n0");
        adapted("n3 n3 n9", "w1 n1 w2 n2", "n1 n1 n9", "w1 n3 w2 n4");
        adapted("w2 t3 ;", "w1 n3", "w2 t3 ;", "w1 n5");
    }

    /** "What was filled by the unit stays as it is." */
    private static void filledStaysAsItIs() {
        Fuzzyseg x = new Fuzzyseg();
        Texts.unit(x, "w1 !", "w2 w3");
        Texts.document(x, "w1 ! w1 !");
        x.fill(1);
        Texts.put(x, "w9");
        x.correct(0);
        Check.same("12 filled", "w2 w3", Texts.target(x, 0));
        Check.same("12 repeated", "w2 w3", Texts.target(x, 1));
        x.withdraw(0);
        Check.same("13 the states", "xr", Texts.states(x));
        Check.same("13 filled", "w2 w3", Texts.target(x, 0));
        Check.same("13 repeated", "w2 w3", Texts.target(x, 1));
        Check.due("29 the unit", 0, () -> x.unitOf(0));
        Check.due("30 the score", 100, () -> x.scoreOf(0));
        Fuzzyseg again = new Fuzzyseg();
        Texts.unit(again, "w1 !", "w2 w3");
        Texts.put(again, "w9");
        again.correct(0);
        Texts.document(again, "w1 !");
        again.fill(1);
        Check.same("12 filled afterwards", "w9", Texts.target(again, 0));
    }

    /** "the draft is taken as its target" */
    private static void answeredSegments() {
        Fuzzyseg x = new Fuzzyseg();
        Texts.unit(x, "w1 !", "w2");
        Texts.document(x, "w1 ! w1 ! w90 ? w1");
        x.fill(60);
        Check.same("28 before", "xref", Texts.states(x));
        for (int segment : new int[] {0, 3, 2, 1}) {
            Texts.draft(x, "w7 w" + segment);
            x.answer(segment);
            Check.due("28 answered " + segment, 'a', () -> x.stateOf(segment));
            Check.same("34 answered " + segment, "w7 w" + segment, Texts.target(x, segment));
            Check.noElement("29 answered " + segment, () -> x.unitOf(segment));
            Check.noElement("30 answered " + segment, () -> x.scoreOf(segment));
        }
        Check.same("28 afterwards", "aaaa", Texts.states(x));
    }

    /** "a unit is added with the segment as its source and this target" */
    private static void answerAddsUnit() {
        Fuzzyseg x = new Fuzzyseg();
        Texts.document(x, "w1 n1 !");
        Check.due("27 no others", 0, () -> Texts.answer(x, 0, "w2 w3"));
        Check.due("14 one", 1, () -> x.units());
        Check.due("15 live", true, () -> x.isLive(0));
        Texts.put(x, "w1 n1 !");
        Check.due("16 its source", 0, () -> x.cost(0));
        Texts.document(x, "w1 n1 !");
        x.fill(100);
        Check.same("34 its target", "w2 w3", Texts.target(x, 0));
        Check.due("27 answered anew", 0, () -> Texts.answer(x, 0, "w4"));
        Check.due("27 answered once more", 0, () -> Texts.answer(x, 0, "w5"));
        Check.due("14 a unit for each answer", 3, () -> x.units());
    }

    /** "Each other segment that is equal to it and not answered becomes repeated and gets this target" */
    private static void othersThatGetTheAnswer() {
        Fuzzyseg x = new Fuzzyseg();
        Texts.unit(x, "w1 !", "w2");
        Texts.document(x, "w1 ! w3 ! w1 ! w1 ? w1 !");
        Check.due("27 empty ones, lower and higher", 2, () -> Texts.answer(x, 2, "w5"));
        Check.same("28 repeated", "reaer", Texts.states(x));
        Check.due("27 repeated ones", 2, () -> Texts.answer(x, 2, "w6 w7"));
        Check.same("34 the lower one", "w6 w7", Texts.target(x, 0));
        Check.same("34 the higher one", "w6 w7", Texts.target(x, 4));
        Texts.document(x, "w1 ! w1 !");
        x.fill(1);
        Check.same("28 filled", "xr", Texts.states(x));
        Check.due("27 filled ones", 1, () -> Texts.answer(x, 1, "w8"));
        Check.same("28 filled before", "ra", Texts.states(x));
        Check.same("34 filled before", "w8", Texts.target(x, 0));
        Check.noElement("29 filled before", () -> x.unitOf(0));
        Check.noElement("30 filled before", () -> x.scoreOf(0));
    }

    private static void answeredOnesKeepTheirTarget() {
        Fuzzyseg x = new Fuzzyseg();
        Texts.document(x, "w1 ! w1 ! w1 !");
        Check.due("27 two others", 2, () -> Texts.answer(x, 0, "w5"));
        Check.due("27 one other", 1, () -> Texts.answer(x, 1, "w6"));
        Check.due("27 no other", 0, () -> Texts.answer(x, 2, "w7"));
        Check.same("28 all answered", "aaa", Texts.states(x));
        Check.same("34 the first answer", "w5", Texts.target(x, 0));
        Check.same("34 the second answer", "w6", Texts.target(x, 1));
        Check.same("34 the third answer", "w7", Texts.target(x, 2));
    }

    /** "Returns the number of its tokens." */
    private static void lengthsOfSegmentsAndTargets() {
        Fuzzyseg x = new Fuzzyseg();
        Texts.document(x, "! w1 w2 !");
        Check.due("31 one", 1, () -> x.segmentLength(0));
        Check.due("31 three", 3, () -> x.segmentLength(1));
        Texts.answer(x, 0, "w1");
        Check.due("33 one", 1, () -> x.targetLength(0));
        Texts.answer(x, 1, Texts.repeat("w1", 60));
        Check.due("33 sixty", 60, () -> x.targetLength(1));
        Texts.answer(x, 1, "w1 w2");
        Check.due("33 shorter than before", 2, () -> x.targetLength(1));
        Texts.document(x, Texts.repeat("w1", 60));
        Check.due("31 sixty", 60, () -> x.segmentLength(0));
    }

    /** "if there is no such segment or token", "or its target has no such token" */
    private static void firstAndLastTokens() {
        Fuzzyseg x = new Fuzzyseg();
        Texts.document(x, "w1 w2 ! " + Texts.repeat("w3", 56) + " w4");
        Texts.answer(x, 0, "w5 " + Texts.repeat("w6", 58) + " w7");
        Texts.answer(x, 1, "w8 w9");
        Check.due("32 first", 1, () -> x.segmentToken(0, 0));
        Check.due("32 last", (int) '!', () -> x.segmentToken(0, 2));
        Check.badIndex("32 behind the last", () -> x.segmentToken(0, 3));
        Check.badIndex("32 before the first of another one", () -> x.segmentToken(1, -1));
        Check.due("32 last of a long one", 4, () -> x.segmentToken(1, 56));
        Check.badIndex("32 behind the last of a long one", () -> x.segmentToken(1, 57));
        Check.due("34 first", 5, () -> x.targetToken(0, 0));
        Check.due("34 last of sixty", 7, () -> x.targetToken(0, 59));
        Check.noElement("34 behind sixty", () -> x.targetToken(0, 60));
        Check.noElement("34 before the first", () -> x.targetToken(0, -1));
        Check.due("34 last of two", 9, () -> x.targetToken(1, 1));
        Check.noElement("34 behind two", () -> x.targetToken(1, 2));
        Check.due("35 last of sixty", 'w', () -> x.targetKind(0, 59));
        Check.noElement("35 behind sixty", () -> x.targetKind(0, 60));
        Check.noElement("35 before the first", () -> x.targetKind(0, -1));
        Check.noElement("35 behind two", () -> x.targetKind(1, 2));
    }

    /** "Returns the value of a word, a number or a tag, or the code of a mark." */
    private static void kindsAndCodes() {
        String ends = "w0 w99 n0 n9999 t0 t9 . ! ? , ;";
        int[] values = {0, 99, 0, 9999, 0, 9, 46, 33, 63, 44, 59};
        String kinds = "wwnnttmmmmm";
        Fuzzyseg x = new Fuzzyseg();
        Texts.document(x, "w1");
        Texts.answer(x, 0, ends);
        for (int i = 0; i < values.length; i++) {
            int index = i;
            Check.due("34 token " + i, values[i], () -> x.targetToken(0, index));
            Check.due("35 token " + i, kinds.charAt(i), () -> x.targetKind(0, index));
        }
        Texts.document(x, "w0 w99 n0 n9999 t0 t9 , ; .");
        Check.same("32 values", "0 99 0 9999 0 9 44 59 46", Texts.segment(x, 0));
    }

    private static void repeats(int want, String document) {
        Fuzzyseg x = new Fuzzyseg();
        Texts.document(x, document);
        Check.due("36 " + document, want, () -> x.repeats());
    }

    /** "Returns the number of segments for which there is an equal segment with a lower number." */
    private static void repeatsCounted() {
        repeats(0, "w1");
        repeats(0, "w1 ! w2 !");
        repeats(1, "w1 ! w1 !");
        repeats(2, "w1 ! w1 ! w1 !");
        repeats(2, "w1 ! w2 ! w1 ! w2 !");
        repeats(1, "w1 ! w2 ! w3 ! w1 !");
        repeats(0, "w1 ! w1");
        repeats(0, "w1 ! w1 ?");
        repeats(0, "w1 ! w1 ! t1");
        repeats(59, Texts.repeat("!", 60));
        repeats(58, Texts.repeat("!", 59) + " ?");
    }

    /** "Returns the sum of the weights of all tokens of the empty segments." */
    private static void openWeights() {
        Fuzzyseg x = new Fuzzyseg();
        x.setWeights(9, 9, 9, 9);
        Texts.document(x, Texts.repeat("w1 n1 t1 !", 15));
        Check.due("37 the greatest sum", 540L, () -> x.openWeight());
        x.setWeights(1, 1, 1, 1);
        Check.due("37 the weights of now", 60L, () -> x.openWeight());
        Texts.document(x, "w1 w2 ! w1 w2 ! n1 ! n2 !");
        Check.due("37 four empty", 10L, () -> x.openWeight());
        Texts.answer(x, 0, "w9 w9 w9");
        Check.due("37 less an answered and a repeated one", 4L, () -> x.openWeight());
        Texts.unit(x, "n1 !", "w9");
        x.fill(100);
        Check.due("37 less a filled one", 2L, () -> x.openWeight());
        x.fill(1);
        Check.due("37 none is empty", 0L, () -> x.openWeight());
    }

    /** "Returns the number of these segments divided by the number of segments, both converted to float." */
    private static void filledShares() {
        Fuzzyseg x = new Fuzzyseg();
        Texts.document(x, Texts.repeat("!", 59) + " w1");
        Check.due("38 none of sixty", 0f, () -> x.filledShare());
        Texts.answer(x, 59, "w1");
        Check.due("38 one of sixty", 1f / 60f, () -> x.filledShare());
        Texts.document(x, Texts.repeat("!", 59) + " w1");
        Texts.answer(x, 3, "w1");
        Check.due("38 all but one", 59f / 60f, () -> x.filledShare());
        Texts.answer(x, 59, "w1");
        Check.due("38 all", 1f, () -> x.filledShare());
        Texts.document(x, "w1");
        Check.due("38 none of one", 0f, () -> x.filledShare());
        x.fill(1);
        Check.due("38 one of one", 1f, () -> x.filledShare());
        Texts.document(x, "w1 ! w20 ! w30");
        Texts.answer(x, 1, "w1");
        Check.due("38 a third", 1f / 3f, () -> x.filledShare());
    }

    /** "Returns whether all of this holds." */
    private static void soundInEachScene() {
        Check.due("40 new", true, () -> Scenes.fresh().isSound());
        Check.due("40 without a document", true, () -> Scenes.noDocument().isSound());
        Check.due("40 all states", true, () -> Scenes.allStates().isSound());
        Check.due("40 with a draft", true, () -> Scenes.fullDraft().isSound());
        Check.due("40 forty units", true, () -> Scenes.fullUnits().isSound());
        Check.due("40 none is live", true, () -> Scenes.noneLive().isSound());
        Check.due("40 twenty terms", true, () -> Scenes.fullTerms().isSound());
    }
}
