/** Promises 1 to 8: a new object, the draft, the weights, the abbreviations. */
public final class DraftTest {
    public static void main(String[] args) {
        newObject();
        words();
        numbers();
        tags();
        marks();
        fullDraft();
        clear();
        weights();
        weightsOutOfRange();
        abbreviations();
        Check.end();
    }

    private static void newObject() {
        Fuzzyseg x = new Fuzzyseg();
        Check.due("1 units", 0, () -> x.units());
        Check.due("1 segments", 0, () -> x.segments());
        Check.due("1 repeats", 0, () -> x.repeats());
        Check.due("1 openWeight", 0L, () -> x.openWeight());
        Check.due("1 isSound", true, () -> x.isSound());
        Check.due("1 fill", 0, () -> x.fill(1));
        Check.badArithmetic("1 filledShare", () -> x.filledShare());
        Check.noElement("1 no source", () -> x.addUnit());
        Check.due("1 clear", 0, () -> x.clear());
        Check.due("1 no term", 1, () -> x.addTerm(0, 0));
        for (int i = 0; i < 100; i++) {
            int word = i;
            Check.due("1 no abbreviation " + i, true, () -> x.addAbbreviation(word));
        }
    }

    private static void words() {
        Fuzzyseg x = new Fuzzyseg();
        Check.due("2 word 0", 1, () -> x.word(0));
        Check.due("2 word 99", 2, () -> x.word(99));
        Check.badArgument("2 word -1", () -> x.word(-1));
        Check.badArgument("2 word 100", () -> x.word(100));
        Check.badArgument("2 least word", () -> x.word(Integer.MIN_VALUE));
        Check.badArgument("2 greatest word", () -> x.word(Integer.MAX_VALUE));
        Check.due("2 two words", 2, () -> x.clear());
    }

    private static void numbers() {
        Fuzzyseg x = new Fuzzyseg();
        Check.due("3 number 0", 1, () -> x.number(0));
        Check.due("3 number 9999", 2, () -> x.number(9999));
        Check.badArgument("3 number -1", () -> x.number(-1));
        Check.badArgument("3 number 10000", () -> x.number(10000));
        Check.due("3 two numbers", 1, () -> x.open());
        Check.due("3 value 0", 0, () -> x.segmentToken(0, 0));
        Check.due("3 value 9999", 9999, () -> x.segmentToken(0, 1));
    }

    private static void tags() {
        Fuzzyseg x = new Fuzzyseg();
        Check.due("4 tag 0", 1, () -> x.tag(0));
        Check.due("4 tag 9", 2, () -> x.tag(9));
        Check.badArgument("4 tag -1", () -> x.tag(-1));
        Check.badArgument("4 tag 10", () -> x.tag(10));
        Check.due("4 two tags", 2, () -> x.clear());
    }

    private static void marks() {
        Fuzzyseg x = new Fuzzyseg();
        int length = 0;
        for (char c = 0; c < 300; c++) {
            char mark = c;
            if (".!?,;".indexOf(c) >= 0) {
                length++;
                Check.due("5 mark " + (int) c, length, () -> x.mark(mark));
            } else {
                Check.badArgument("5 mark " + (int) c, () -> x.mark(mark));
            }
        }
        Check.badArgument("5 greatest mark", () -> x.mark((char) 65535));
        Check.due("5 five marks", 5, () -> x.clear());
    }

    private static void fullDraft() {
        Fuzzyseg x = new Fuzzyseg();
        Texts.put(x, Texts.repeat("w1", 59));
        Check.due("2 the sixtieth", 60, () -> x.word(2));
        Check.badState("2 full", () -> x.word(1));
        Check.badState("3 full", () -> x.number(1));
        Check.badState("4 full", () -> x.tag(1));
        Check.badState("5 full", () -> x.mark('.'));
        Check.badArgument("2 full and out of range", () -> x.word(100));
        Check.badArgument("3 full and out of range", () -> x.number(10000));
        Check.badArgument("4 full and out of range", () -> x.tag(10));
        Check.badArgument("5 full and no mark", () -> x.mark(':'));
        Check.due("6 sixty", 60, () -> x.clear());
        Check.due("2 room again", 1, () -> x.word(1));
    }

    private static void clear() {
        Fuzzyseg x = new Fuzzyseg();
        Texts.put(x, "w1 n2 t3");
        x.takeSource();
        Texts.put(x, "w1 n2");
        Check.due("6 clear", 2, () -> x.clear());
        Check.due("6 clear again", 0, () -> x.clear());
        Check.badState("6 nothing there", () -> x.open());
        Texts.put(x, "w5");
        Check.due("6 the source that was taken stays", 0, () -> x.addUnit());
    }

    private static void weights() {
        Fuzzyseg x = new Fuzzyseg();
        Texts.document(x, "w1 n1 t1 , w2");
        Check.due("7 at first", 12L, () -> x.openWeight());
        Check.due("7 the first word weight", 4, () -> x.setWeights(9, 8, 7, 6));
        Check.due("7 changed", 39L, () -> x.openWeight());
        Check.due("7 the word weight before", 9, () -> x.setWeights(1, 1, 1, 1));
        Check.due("7 all 1", 5L, () -> x.openWeight());
        Check.due("7 the same again", 1, () -> x.setWeights(1, 1, 1, 1));
        Check.due("7 greatest", 1, () -> x.setWeights(9, 9, 9, 9));
        Check.due("7 all 9", 45L, () -> x.openWeight());
    }

    private static void weightsOutOfRange() {
        Fuzzyseg x = new Fuzzyseg();
        Texts.document(x, "w1 n1 t1 ,");
        int[] bad = {0, 10, -1, Integer.MIN_VALUE, Integer.MAX_VALUE};
        for (int value : bad) {
            Check.badArgument("7 word " + value, () -> x.setWeights(value, 5, 5, 5));
            Check.badArgument("7 number " + value, () -> x.setWeights(5, value, 5, 5));
            Check.badArgument("7 tag " + value, () -> x.setWeights(5, 5, value, 5));
            Check.badArgument("7 mark " + value, () -> x.setWeights(5, 5, 5, value));
        }
        Check.due("7 unchanged", 8L, () -> x.openWeight());
        Check.due("7 words unchanged", 4, () -> x.setWeights(5, 5, 5, 5));
    }

    private static void abbreviations() {
        Fuzzyseg x = new Fuzzyseg();
        Texts.document(x, "w4 . w5");
        Check.badArgument("8 word -1", () -> x.addAbbreviation(-1));
        Check.badArgument("8 word 100", () -> x.addAbbreviation(100));
        Check.due("8 new", true, () -> x.addAbbreviation(4));
        Check.due("8 there already", false, () -> x.addAbbreviation(4));
        Check.due("8 least", true, () -> x.addAbbreviation(0));
        Check.due("8 greatest", true, () -> x.addAbbreviation(99));
        Check.due("8 the document stays cut", 2, () -> x.segments());
        Check.due("8 cut anew", 1, () -> Texts.document(x, "w4 . w5"));
    }
}
