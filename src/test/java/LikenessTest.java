/** Promises 16 to 23 and 39: cost, likeness, score, pairs, the best unit, the mean. */
public final class LikenessTest {
    public static void main(String[] args) {
        costs();
        fromEndsAlone();
        oddWeights();
        longTexts();
        likeness();
        missing();
        score();
        scoreAndLikenessOfTheBest();
        theLaterOfEqualOnes();
        notOffered();
        scoreOne();
        sharedPairs();
        sharedPairsAgain();
        meanLikeness();
        Check.end();
    }

    /** Both ways, and both texts as the first one. */
    private static void cost(int want, String text, String source) {
        costOneWay(want, text, source);
        costOneWay(want, source, text);
    }

    private static void costOneWay(int want, String text, String source) {
        Fuzzyseg x = new Fuzzyseg();
        Texts.unit(x, source, "w1");
        Texts.put(x, text);
        Check.due("16 " + text + " to " + source, want, () -> x.cost(0));
        Check.due("17 " + text + " to " + source, want, () -> x.costFromEnds(0));
        int length = text.split(" ").length;
        Check.due("16 the draft stays", length, () -> x.clear());
    }

    private static void costs() {
        cost(0, "w1 n2 t3 . ,", "w1 n2 t3 . ,");
        cost(2, "w10", "w19");
        cost(4, "w10", "w20");
        cost(4, "w9", "w10");
        cost(2, "w0", "w9");
        cost(2, "w99", "w90");
        cost(1, "n1", "n9999");
        cost(1, "t1", "t2");
        cost(1, "!", "?");
        cost(6, "w1", "n1");
        cost(5, "w1", "t1");
        cost(3, "n1", "t1");
        cost(2, "t1", "!");
        cost(3, "n1", "!");
        cost(4, "w1 w2", "w2");
        cost(8, "w1 w2 w3", "w2");
        cost(8, "w1 w2 w30", "w30 w2");
        cost(2, "w1 t1 w2", "w1 w2 t1");
        cost(3, "w12 n5 w30 .", "w13 n8 w30 .");
        cost(11, "w10 n1 n2", "w20 , n1 w11");
    }

    /** Nothing that another call has found may be needed. */
    private static void fromEndsAlone() {
        Fuzzyseg x = new Fuzzyseg();
        Texts.unit(x, "w1 n1 w2", "w1");
        Texts.unit(x, "n1", "w1");
        Texts.put(x, "w1 t1 w3");
        Check.due("17 alone", 5, () -> x.costFromEnds(0));
        Check.due("17 alone, another unit", 11, () -> x.costFromEnds(1));
        Check.due("17 alone, the first unit again", 5, () -> x.costFromEnds(0));
        Check.due("16 the same", 11, () -> x.cost(1));
        Check.due("16 the same", 5, () -> x.cost(0));
    }

    private static void oddWeights() {
        Fuzzyseg x = new Fuzzyseg();
        x.setWeights(9, 7, 5, 3);
        Texts.unit(x, "w1", "w1");
        Texts.unit(x, "n1", "w1");
        Texts.unit(x, "t1", "w1");
        Texts.unit(x, ",", "w1");
        Texts.draft(x, "w2");
        Check.due("16 half of 9", 5, () -> x.cost(0));
        Check.due("17 half of 9", 5, () -> x.costFromEnds(0));
        Texts.draft(x, "w11");
        Check.due("16 another stem", 9, () -> x.cost(0));
        Texts.draft(x, "n2");
        Check.due("16 half of 7", 4, () -> x.cost(1));
        Check.due("17 half of 7", 4, () -> x.costFromEnds(1));
        Texts.draft(x, "t2");
        Check.due("16 a tag", 5, () -> x.cost(2));
        Check.due("17 a tag", 5, () -> x.costFromEnds(2));
        Texts.draft(x, ";");
        Check.due("16 a mark", 3, () -> x.cost(3));
        Check.due("17 a mark", 3, () -> x.costFromEnds(3));
        x.setWeights(1, 1, 1, 1);
        Texts.draft(x, "w2");
        Check.due("16 half of 1", 1, () -> x.cost(0));
        Texts.draft(x, "n2");
        Check.due("16 half of 1, a number", 1, () -> x.cost(1));
    }

    private static void longTexts() {
        Fuzzyseg x = new Fuzzyseg();
        x.setWeights(9, 9, 9, 9);
        Texts.unit(x, Texts.repeat("w1", 60), "w1");
        Texts.draft(x, Texts.repeat("n1", 60));
        Check.due("16 the dearest", 1080, () -> x.cost(0));
        Check.due("17 the dearest", 1080, () -> x.costFromEnds(0));
        Check.due("18 the dearest", 0, () -> x.likeness(0));
        Texts.draft(x, Texts.repeat("w2", 60));
        Check.due("16 sixty stems", 300, () -> x.cost(0));
        Check.due("18 sixty stems", 44, () -> x.likeness(0));
    }

    private static void likeness(int want, String text, String source) {
        Fuzzyseg x = new Fuzzyseg();
        Texts.unit(x, source, "w1");
        Texts.put(x, text);
        Check.due("18 " + text + " to " + source, want, () -> x.likeness(0));
        Check.due("18 the draft stays", text.split(" ").length, () -> x.clear());
    }

    private static void likeness() {
        likeness(100, "w1 n2", "w1 n2");
        likeness(72, "w13 n8 w30 .", "w12 n5 w30 .");
        likeness(50, "w1", "w2");
        likeness(0, "w1", "w10");
        likeness(0, "w1", "n1");
        likeness(25, "w9", "w1 w2");
        likeness(25, "w1 w2", "w9");
        likeness(33, "w1", "w1 w20 w30");
        likeness(66, "w1 w20 w30", "w1 w30");
        likeness(75, "n1 n2", "n1 n3");
        likeness(80, "w1 t1", "w1");
        likeness(80, "w1", "w1 t1");
    }

    private static void missing() {
        Fuzzyseg x = new Fuzzyseg();
        x.addTerm(1, 60);
        x.addTerm(1, 61);
        x.addTerm(2, 62);
        Texts.unit(x, "w1 w2", "w61 n60 n62");
        Texts.draft(x, "w1 w1 w2");
        Check.due("19 two of three", 2, () -> x.missing(0));
        Check.due("19 the draft stays", 3, () -> x.clear());
        Texts.put(x, "w1");
        Check.due("19 one", 1, () -> x.missing(0));
        Texts.draft(x, "n1 t1 w3");
        Check.due("19 only words count", 0, () -> x.missing(0));
        Texts.draft(x, "w2");
        x.withdraw(0);
        Check.due("19 withdrawn", 1, () -> x.missing(0));
    }

    private static void score() {
        Fuzzyseg x = new Fuzzyseg();
        Texts.unit(x, "w1 w2 w3", "w9");
        Texts.draft(x, "w1 w2 w3");
        for (int i = 0; i < 12; i++) {
            int want = Math.max(0, 100 - 10 * i);
            Check.due("20 with " + i + " terms", want, () -> x.score(0));
            x.addTerm(1, 20 + i);
        }
        Check.due("20 the draft stays", 3, () -> x.clear());
        Texts.put(x, "w2 w3");
        Check.due("20 no term", 66, () -> x.score(0));
        x.withdraw(0);
        Check.due("20 withdrawn", 66, () -> x.score(0));
    }

    private static void scoreAndLikenessOfTheBest() {
        Fuzzyseg x = new Fuzzyseg();
        Check.badState("22 empty draft", () -> x.best());
        Check.badState("23 empty draft", () -> x.bestOfAll());
        x.addTerm(1, 60);
        String source = "w1 w2 w3 w4 w5 w6 w7 w8 w9 w10";
        Texts.unit(x, source, "w61");
        Texts.unit(x, "w1 w2 w3 w4 w5 w6 w7 w8 w9 w20", "w60");
        Texts.unit(x, "w1 w2 w3 w4 w5 w6 w7 w8 w9 w20", "w61");
        Texts.draft(x, source);
        Check.due("20 like and missed", 90, () -> x.score(0));
        Check.due("20 less like and not missed", 90, () -> x.score(1));
        Check.bestIs("of equal scores the greatest likeness", 0, x);
        x.withdraw(0);
        Check.bestIs("the greatest score", 1, x);
        Check.due("22 the draft stays", 10, () -> x.clear());
    }

    private static void theLaterOfEqualOnes() {
        Fuzzyseg x = new Fuzzyseg();
        Texts.unit(x, "w1 w20", "w1");
        Texts.unit(x, "w1 w30", "w2");
        Texts.unit(x, "w1 w40", "w3");
        Texts.unit(x, "w50 w60", "w3");
        Texts.draft(x, "w1 w70");
        Check.bestIs("the highest number", 2, x);
        x.withdraw(2);
        Check.bestIs("the highest number that is live", 1, x);
        Texts.draft(x, "w1 w20");
        Check.bestIs("the greatest likeness", 0, x);
    }

    private static void notOffered() {
        Fuzzyseg x = new Fuzzyseg();
        Texts.draft(x, "w1");
        Check.noBest("no units", x);
        Texts.unit(x, "w90", "w1");
        Texts.draft(x, "w1");
        Check.noBest("nothing alike", x);
        Texts.unit(x, "w2", "w1");
        Texts.draft(x, "w1");
        Check.bestIs("half alike", 1, x);
        for (int i = 0; i < 4; i++) {
            x.addTerm(1, 20 + i);
        }
        Check.bestIs("score 10", 1, x);
        x.addTerm(1, 30);
        Check.noBest("score 0", x);
    }

    private static void scoreOne() {
        Fuzzyseg x = new Fuzzyseg();
        x.addTerm(1, 20);
        Texts.unit(x, "w1 w10 w20 w30 w40 w50 w60 w70 w80", "w21");
        Texts.draft(x, "w1");
        Check.due("18 a ninth", 11, () -> x.likeness(0));
        Check.due("20 a ninth less 10", 1, () -> x.score(0));
        Check.bestIs("score 1", 0, x);
        Texts.unit(x, "w1 w10 w20 w30 w40 w50 w60 w70 w80 w90", "w21");
        Texts.draft(x, "w1");
        Check.due("20 a tenth less 10", 0, () -> x.score(1));
        Check.bestIs("score 0 is not offered", 0, x);
        x.withdraw(0);
        Check.noBest("only score 0", x);
    }

    private static void pairs(int want, String text, String source) {
        Fuzzyseg x = new Fuzzyseg();
        Texts.unit(x, source, "w1");
        Texts.put(x, text);
        Check.due("21 " + text + " and " + source, want, () -> x.sharedPairs(0));
        Check.due("21 the draft stays", text.split(" ").length, () -> x.clear());
    }

    private static void sharedPairs() {
        pairs(0, "w1", "w1");
        pairs(1, "w1 w2", "w1 w2");
        pairs(0, "w1 w2", "w2 w1");
        pairs(2, "w1 w2 w1", "w2 w1 w2");
        pairs(1, "w1 w2 w1 w2", "w1 w2 w3");
        pairs(1, "w1 w2 w3", "w1 w2 w1 w2");
        pairs(1, "w1 t1 w2", "w1 w2");
        pairs(1, "w1 w2", "t0 w1 t1 t2 w2 t3");
        pairs(2, "w1 n1 .", "w1 n2 .");
        pairs(1, "n1 n2 n3", "n4 n5");
        pairs(0, "w1 n1", "w1 w1");
        pairs(0, "t1 t2", "t1 t2");
        pairs(0, "t1 w1", "t1 w1");
        pairs(1, ". .", ". . .");
        pairs(0, "w1 w2", "w1 w3 w2");
        pairs(0, "w0 w1", "n0 w1");
        pairs(1, Texts.repeat("w1", 60), Texts.repeat("w1", 60));
    }

    private static void sharedPairsAgain() {
        Fuzzyseg x = new Fuzzyseg();
        Texts.unit(x, "w1 w2 w3", "w1");
        Texts.unit(x, "w8 w9", "w1");
        Texts.draft(x, "w1 w2 w3");
        Check.due("21 two pairs", 2, () -> x.sharedPairs(0));
        Check.due("21 another unit", 0, () -> x.sharedPairs(1));
        Texts.draft(x, "w2 w3");
        Check.due("21 another draft", 1, () -> x.sharedPairs(0));
    }

    private static void meanLikeness() {
        Fuzzyseg x = new Fuzzyseg();
        Check.badState("39 empty draft", () -> x.meanLikeness());
        Texts.put(x, "w1");
        Check.badArithmetic("39 no units", () -> x.meanLikeness());
        Texts.unit(x, "w1", "w1");
        Texts.unit(x, "w2", "w1");
        Texts.unit(x, "w90", "w1");
        Check.badState("39 empty draft, live units", () -> x.meanLikeness());
        Texts.put(x, "w1");
        Check.due("39 three", 50.0, () -> x.meanLikeness());
        x.addTerm(1, 50);
        Check.due("39 terms do not count", 50.0, () -> x.meanLikeness());
        x.withdraw(0);
        Check.due("39 two", 25.0, () -> x.meanLikeness());
        Check.due("39 the draft stays", 1, () -> x.clear());
        Texts.unit(x, "w1", "w1");
        Texts.draft(x, "w3 w1");
        Check.due("39 not rounded", (25 + 0 + 50) / 3.0, () -> x.meanLikeness());
        Texts.draft(x, "w1 w1 w1");
        Check.due("39 thirds", (16 + 0 + 33) / 3.0, () -> x.meanLikeness());
        for (int i = 1; i < 4; i++) {
            x.withdraw(i);
        }
        Check.badArithmetic("39 none is live", () -> x.meanLikeness());
        x.clear();
        Check.badState("39 empty draft, none is live", () -> x.meanLikeness());
    }
}
