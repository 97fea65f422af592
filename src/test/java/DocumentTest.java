/** Promises 24 to 38 and 40: documents, filling, answers. */
public final class DocumentTest {
    public static void main(String[] args) {
        cuts();
        cutsAtAbbreviations();
        open();
        fillStates();
        fillThresholds();
        fillRepeats();
        fillTakesTheBest();
        answer();
        answerAgain();
        answerReplacesFillings();
        answerKeepsTheTakenSource();
        wrongTokens();
        kinds();
        repeats();
        openWeight();
        filledShare();
        isSound();
        Check.end();
    }

    /** Each segment is due as its values, the codes of marks among them. */
    private static void cut(String document, String... want) {
        cut(new Fuzzyseg(), document, want);
    }

    private static void cutAtAbbreviations(String document, String... want) {
        Fuzzyseg x = new Fuzzyseg();
        x.addAbbreviation(4);
        x.addAbbreviation(0);
        x.addAbbreviation(99);
        cut(x, document, want);
    }

    private static void cut(Fuzzyseg x, String document, String... want) {
        Check.due("24 " + document, want.length, () -> Texts.document(x, document));
        Check.due("25 " + document, want.length, () -> x.segments());
        for (int i = 0; i < want.length; i++) {
            int segment = i;
            Check.due("32 " + document, want[i], () -> Texts.segment(x, segment));
            Check.due("28 " + document, 'e', () -> x.stateOf(segment));
        }
    }

    private static void cuts() {
        cut("w1", "1");
        cut("w1 .", "1 46");
        cut("w1 . w2", "1 46", "2");
        cut("w1 ! w2 ? w3 .", "1 33", "2 63", "3 46");
        cut("w1 , w2 ; w3", "1 44 2 59 3");
        cut("n1 . n2", "1 46 2");
        cut("n1 . w2", "1 46", "2");
        cut("w1 . n2", "1 46", "2");
        cut("n1 .", "1 46");
        cut(". n1", "46", "1");
        cut("n1 ! n2", "1 33", "2");
        cut("n1 t1 . n2", "1 1 46", "2");
        cut("n1 . t1 n2", "1 46 1", "2");
        cut("w1 . t1 t2 w3", "1 46 1 2", "3");
        cut("w1 ! t1 t2", "1 33 1 2");
        cut("w1 ! t1 . t2 w3", "1 33 1", "46 2", "3");
        cut("t1 t2 w3 t4 ? t5", "1 2 3 4 63 5");
        cut(". . .", "46", "46", "46");
        cut("! t1 ? t2", "33 1", "63 2");
        cut("t1 t2", "1 2");
        cut("w1 , t1 w2", "1 44 1 2");
        cut("n1 . n2 . n3 . w4", "1 46 2 46 3 46", "4");
        String[] sixty = new String[60];
        java.util.Arrays.fill(sixty, "33");
        cut(Texts.repeat("!", 60), sixty);
    }

    private static void cutsAtAbbreviations() {
        cutAtAbbreviations("w0 . w99 . w98 . w1", "0 46 99 46 98 46", "1");
        cutAtAbbreviations("w4 . w5", "4 46 5");
        cutAtAbbreviations("w4 .", "4 46");
        cutAtAbbreviations("w4 . . w5", "4 46 46", "5");
        cutAtAbbreviations("w4 ! w5", "4 33", "5");
        cutAtAbbreviations("w4 ? w5", "4 63", "5");
        cutAtAbbreviations("w5 . w4", "5 46", "4");
        cutAtAbbreviations("w4 t1 . w5", "4 1 46", "5");
        cutAtAbbreviations("w4 . t1 w5", "4 46 1 5");
        cutAtAbbreviations("n4 . w5", "4 46", "5");
        cutAtAbbreviations("t4 . w5", "4 46", "5");
        cutAtAbbreviations("w4 . n1 . n2 . w4", "4 46 1 46 2 46", "4");
    }

    private static void open() {
        Fuzzyseg x = new Fuzzyseg();
        Check.badState("24 empty draft", () -> x.open());
        Check.due("25 no document", 0, () -> x.segments());
        Texts.unit(x, "w1 .", "w2 .");
        Texts.document(x, "w1 . w3 .");
        Check.due("24 the draft is empty", 0, () -> x.clear());
        x.fill(100);
        Check.same("24 filled", "xe", Texts.states(x));
        Check.badState("24 empty draft again", () -> x.open());
        Check.same("24 the document stays", "xe", Texts.states(x));
        Texts.document(x, "w1 .");
        Check.same("24 empty segments in place of the ones before", "e", Texts.states(x));
        Check.due("25 one", 1, () -> x.segments());
    }

    private static void fillStates() {
        Fuzzyseg x = new Fuzzyseg();
        Texts.unit(x, "w1 .", "w2 .");
        Texts.unit(x, "w90 w91 .", "w92 .");
        Texts.document(x, "w1 . w1 . w90 ! w50 ?");
        Check.due("26 three", 3, () -> x.fill(1));
        Check.same("28 the states", "xrfe", Texts.states(x));
        Check.due("29 exact", 0, () -> x.unitOf(0));
        Check.due("29 fuzzy", 1, () -> x.unitOf(2));
        Check.noElement("29 repeated", () -> x.unitOf(1));
        Check.noElement("29 empty", () -> x.unitOf(3));
        Check.due("30 exact", 100, () -> x.scoreOf(0));
        Check.due("30 fuzzy", 44, () -> x.scoreOf(2));
        Check.noElement("30 repeated", () -> x.scoreOf(1));
        Check.noElement("30 empty", () -> x.scoreOf(3));
        Check.same("34 repeated", "w2 .", Texts.target(x, 1));
        Check.same("34 fuzzy", "w92 .", Texts.target(x, 2));
        Check.due("26 nothing more", 0, () -> x.fill(1));
        x.setWeights(1, 9, 9, 9);
        x.addTerm(90, 50);
        Check.due("30 the score that it had", 44, () -> x.scoreOf(2));
    }

    private static void fillThresholds() {
        Fuzzyseg x = new Fuzzyseg();
        Check.badArgument("26 threshold 0", () -> x.fill(0));
        Check.badArgument("26 threshold 101", () -> x.fill(101));
        Check.badArgument("26 threshold -1", () -> x.fill(-1));
        Check.due("26 no document", 0, () -> x.fill(100));
        Texts.unit(x, "w1", "w2");
        Texts.document(x, "w2");
        Check.badArgument("26 threshold 0, a document", () -> x.fill(0));
        Check.due("26 above the score", 0, () -> x.fill(51));
        Check.same("26 stays empty", "e", Texts.states(x));
        Check.due("26 at the score", 1, () -> x.fill(50));
        Check.same("26 filled", "f", Texts.states(x));
        Texts.document(x, "w1");
        x.addTerm(1, 50);
        Check.due("26 like, but missed", 0, () -> x.fill(91));
        Check.due("26 like and missed", 1, () -> x.fill(90));
        Check.same("28 another score than 100", "f", Texts.states(x));
        Check.due("30 less the missed term", 90, () -> x.scoreOf(0));
    }

    private static void fillRepeats() {
        Fuzzyseg x = new Fuzzyseg();
        Texts.document(x, "w1 . w2 . w1 . w3 . w2 .");
        Texts.answer(x, 1, "w7 w8");
        Check.same("27 the equal one", "eaeer", Texts.states(x));
        Texts.unit(x, "w3 .", "w9");
        Check.due("26 all that are alike", 3, () -> x.fill(1));
        Check.same("28 filled and repeated", "farxr", Texts.states(x));
        Check.same("33 the target of the first", Texts.target(x, 0), Texts.target(x, 2));
        Check.due("29 the highest number", 1, () -> x.unitOf(0));
    }

    private static void fillTakesTheBest() {
        Fuzzyseg x = new Fuzzyseg();
        Texts.unit(x, "w1 w2 .", "w70");
        Texts.unit(x, "w1 w3 .", "w71");
        Texts.unit(x, "w1 w2 .", "w72");
        Texts.document(x, "w1 w2 . w1 w3 .");
        Check.due("26 two", 2, () -> x.fill(1));
        Check.due("29 the later one", 2, () -> x.unitOf(0));
        Check.due("29 the like one", 1, () -> x.unitOf(1));
        x.withdraw(2);
        Texts.document(x, "w1 w2 .");
        x.fill(1);
        Check.due("29 the live one", 0, () -> x.unitOf(0));
    }

    private static void answer() {
        Fuzzyseg x = new Fuzzyseg();
        Texts.document(x, "w7 . w7 . w8 . w7 .");
        Check.badState("27 empty draft", () -> x.answer(0));
        Check.badIndex("27 empty draft and segment -1", () -> x.answer(-1));
        Check.badIndex("27 empty draft and segment 4", () -> x.answer(4));
        Check.due("27 two others", 2, () -> Texts.answer(x, 1, "w50 n5"));
        Check.due("27 the draft is empty", 0, () -> x.clear());
        Check.same("27 the states", "raer", Texts.states(x));
        Check.due("27 a unit was added", 1, () -> x.units());
        Check.due("27 it is live", true, () -> x.isLive(0));
        for (int i : new int[] {0, 1, 3}) {
            Check.due("27 target " + i, "w50 n5", () -> Texts.target(x, i));
            Check.noElement("29 after an answer " + i, () -> x.unitOf(i));
            Check.noElement("30 after an answer " + i, () -> x.scoreOf(i));
        }
        Texts.draft(x, "w7 .");
        Check.due("27 the segment is the source", 0, () -> x.cost(0));
        Texts.draft(x, "w1");
        Check.due("27 the draft was the target", 2, () -> x.correct(0));
        Check.same("27 the answer stays", "w50 n5", Texts.target(x, 1));
        Check.due("27 no others", 0, () -> Texts.answer(x, 2, "w1"));
        Check.same("27 all the states", "raar", Texts.states(x));
    }

    private static void answerAgain() {
        Fuzzyseg x = new Fuzzyseg();
        Texts.document(x, "w7 . w7 . w7 .");
        Texts.answer(x, 0, "w50");
        Check.due("27 an answered one does not count", 1, () -> Texts.answer(x, 2, "w60"));
        Check.same("27 two answered", "ara", Texts.states(x));
        Check.same("27 the first answer stays", "w50", Texts.target(x, 0));
        Check.same("27 the later answer is repeated", "w60", Texts.target(x, 1));
        Check.due("27 answered again", 1, () -> Texts.answer(x, 0, "w70 w71"));
        Check.same("27 the new answer", "w70 w71", Texts.target(x, 0));
        Check.same("27 the new answer is repeated", "w70 w71", Texts.target(x, 1));
        Check.same("27 the other answer stays", "w60", Texts.target(x, 2));
        Check.due("27 three units", 3, () -> x.units());
        Check.due("26 nothing is empty", 0, () -> x.fill(1));
    }

    private static void answerReplacesFillings() {
        Fuzzyseg x = new Fuzzyseg();
        Texts.unit(x, "w7 .", "w50 w51 w52");
        Texts.document(x, "w7 . w7 . w8 .");
        x.fill(1);
        Check.same("28 filled", "xrf", Texts.states(x));
        Check.due("27 the filled one counts", 1, () -> Texts.answer(x, 1, "w60"));
        Check.same("28 repeated", "raf", Texts.states(x));
        Check.due("27 its target", "w60", () -> Texts.target(x, 0));
        Check.noElement("29 not filled by a unit any more", () -> x.unitOf(0));
        Check.noElement("30 not filled by a unit any more", () -> x.scoreOf(0));
        Texts.answer(x, 2, "w61");
        Check.noElement("29 answered", () -> x.unitOf(2));
        Check.noElement("30 answered", () -> x.scoreOf(2));
        Check.due("28 answered", 'a', () -> x.stateOf(2));
    }

    private static void answerKeepsTheTakenSource() {
        Fuzzyseg x = new Fuzzyseg();
        Texts.document(x, "w7");
        Texts.put(x, "w1 w2");
        x.takeSource();
        Texts.put(x, "w3");
        x.answer(0);
        Texts.put(x, "w4");
        Check.due("11 the source is there still", 1, () -> x.addUnit());
        Texts.put(x, "w1 w2");
        Check.due("11 it is the source that was taken", 100, () -> x.likeness(1));
    }

    private static void wrongTokens() {
        Fuzzyseg x = new Fuzzyseg();
        Texts.document(x, "w1 . w2 w3 w4");
        Check.due("31 first", 2, () -> x.segmentLength(0));
        Check.due("31 second", 3, () -> x.segmentLength(1));
        for (int index : new int[] {-1, 3, 60, Integer.MIN_VALUE, Integer.MAX_VALUE}) {
            Check.badIndex("32 token " + index, () -> x.segmentToken(1, index));
        }
        Check.badIndex("32 another segment's token", () -> x.segmentToken(0, 2));
        Check.noElement("33 empty", () -> x.targetLength(0));
        Check.noElement("34 empty", () -> x.targetToken(0, 0));
        Check.noElement("35 empty", () -> x.targetKind(0, 0));
        Texts.answer(x, 0, "w50 w51 w52");
        Check.due("33 answered", 3, () -> x.targetLength(0));
        for (int index : new int[] {-1, 3, 60, Integer.MIN_VALUE, Integer.MAX_VALUE}) {
            Check.noElement("34 token " + index, () -> x.targetToken(0, index));
            Check.noElement("35 token " + index, () -> x.targetKind(0, index));
        }
    }

    private static void kinds() {
        Fuzzyseg x = new Fuzzyseg();
        Texts.document(x, "w99 n9999 t9 ; .");
        int[] values = {99, 9999, 9, ';', '.'};
        char[] letters = {'w', 'n', 't', 'm', 'm'};
        Texts.answer(x, 0, "w99 n9999 t9 ; .");
        for (int i = 0; i < values.length; i++) {
            int index = i;
            Check.due("32 token " + i, values[i], () -> x.segmentToken(0, index));
            Check.due("34 token " + i, values[i], () -> x.targetToken(0, index));
            Check.due("35 token " + i, letters[i], () -> x.targetKind(0, index));
        }
        Texts.answer(x, 0, "w0 n0 t0");
        for (int i = 0; i < 3; i++) {
            int index = i;
            Check.due("34 value 0, token " + i, 0, () -> x.targetToken(0, index));
            Check.due("35 value 0, token " + i, letters[i], () -> x.targetKind(0, index));
        }
    }

    private static void repeats() {
        Fuzzyseg x = new Fuzzyseg();
        Texts.document(x, "w1 . w2 . w1 . w1 . w2 . w3");
        Check.due("36 three", 3, () -> x.repeats());
        Texts.answer(x, 0, "w5");
        Check.due("36 whatever the states", 3, () -> x.repeats());
        Texts.document(x, "w1 . n1 . t1 . w1 , . w1 ! w1 w1 . w1");
        Check.due("36 none is equal", 0, () -> x.repeats());
        Texts.document(x, Texts.repeat("!", 60));
        Check.due("36 all but one", 59, () -> x.repeats());
    }

    private static void openWeight() {
        Fuzzyseg x = new Fuzzyseg();
        Texts.document(x, "w1 n2 . , t3 ! w4 ?");
        Check.due("37 all", 15L, () -> x.openWeight());
        Texts.answer(x, 0, "w1 w2 w3");
        Check.due("37 less the answered one", 8L, () -> x.openWeight());
        Texts.unit(x, "w4 ?", "w1");
        x.fill(100);
        Check.due("37 less the filled one", 3L, () -> x.openWeight());
        x.setWeights(1, 1, 9, 5);
        Check.due("37 other weights", 19L, () -> x.openWeight());
        Texts.answer(x, 1, "w1");
        Check.due("37 none", 0L, () -> x.openWeight());
    }

    private static void filledShare() {
        Fuzzyseg x = new Fuzzyseg();
        Check.badArithmetic("38 no document", () -> x.filledShare());
        Texts.document(x, "w1 . w20 . w1 . w30 . w40 . w50 . w60");
        Check.due("38 none", 0f, () -> x.filledShare());
        Texts.answer(x, 0, "w1");
        Check.due("38 two", 2f / 7f, () -> x.filledShare());
        Texts.unit(x, "w20 .", "w1");
        x.fill(100);
        Check.due("38 three", 3f / 7f, () -> x.filledShare());
        for (int i = 0; i < 7; i++) {
            Texts.answer(x, i, "w1");
        }
        Check.due("38 all", 1f, () -> x.filledShare());
    }

    private static void isSound() {
        Fuzzyseg x = new Fuzzyseg();
        Check.due("40 nothing there", true, () -> x.isSound());
        Texts.document(x, "w1 w2 n5 . w3 t1 w4 ! w50 , w60 ? w1 n7 .");
        Check.due("40 no units", true, () -> x.isSound());
        Texts.unit(x, "w90", "w1");
        Check.due("40 none is offered", true, () -> x.isSound());
        Texts.unit(x, "w1 w2 n5 .", "w1");
        Texts.unit(x, "w2 w1 n5 .", "w1");
        Texts.unit(x, "w3 , w4 t1 !", "w1");
        Texts.unit(x, "w60 ? w50 ,", "w1");
        x.addTerm(1, 1);
        x.addTerm(3, 2);
        x.setWeights(9, 7, 5, 3);
        Check.due("40 units and terms", true, () -> x.isSound());
        x.withdraw(1);
        x.fill(1);
        Check.due("40 after filling", true, () -> x.isSound());
        Texts.put(x, "w1 w2");
        x.isSound();
        Check.due("40 the draft stays", 2, () -> x.clear());
    }
}
