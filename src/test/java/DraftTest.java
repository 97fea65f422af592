/** Promises 1 to 8: a new object, the draft, the weights, the abbreviations. */
public final class DraftTest {
    public static void main(String[] args) {
        newObject();
        marks();
        clear();
        weights();
        abbreviations();
        Check.end();
    }

    private static void newObject() {
        Fuzzyseg x = new Fuzzyseg();
        Check.due("1 units", 0, () -> x.units());
        Check.due("1 segments", 0, () -> x.segments());
        Check.due("1 repeats", 0, () -> x.repeats());
        Check.due("1 openWeight", 0L, () -> x.openWeight());
        Check.due("1 isSound", true, () -> x.isSound());
        Check.due("1 fill", 0, () -> x.fill(1));
        Check.badArithmetic("1 filledShare", () -> x.filledShare());
        Check.noElement("1 no source", () -> x.addUnit());
        Check.due("1 clear", 0, () -> x.clear());
        Check.due("1 no term", 1, () -> x.addTerm(0, 0));
        for (int i = 0; i < 100; i++) {
            int word = i;
            Check.due("1 no abbreviation " + i, true, () -> x.addAbbreviation(word));
        }
    }

    private static void marks() {
        Fuzzyseg x = new Fuzzyseg();
        int length = 0;
        for (char c = 0; c < 300; c++) {
            char mark = c;
            if (".!?,;".indexOf(c) >= 0) {
                length++;
                Check.due("5 mark " + (int) c, length, () -> x.mark(mark));
            } else {
                Check.badArgument("5 mark " + (int) c, () -> x.mark(mark));
            }
        }
        Check.badArgument("5 greatest mark", () -> x.mark((char) 65535));
        Check.due("5 five marks", 5, () -> x.clear());
    }

    private static void clear() {
        Fuzzyseg x = new Fuzzyseg();
        Texts.put(x, "w1 n2 t3");
        x.takeSource();
        Texts.put(x, "w1 n2");
        Check.due("6 clear", 2, () -> x.clear());
        Check.due("6 clear again", 0, () -> x.clear());
        Check.badState("6 nothing there", () -> x.open());
        Texts.put(x, "w5");
        Check.due("6 the source that was taken stays", 0, () -> x.addUnit());
    }

    private static void weights() {
        Fuzzyseg x = new Fuzzyseg();
        Texts.document(x, "w1 n1 t1 , w2");
        Check.due("7 at first", 12L, () -> x.openWeight());
        Check.due("7 the first word weight", 4, () -> x.setWeights(9, 8, 7, 6));
        Check.due("7 changed", 39L, () -> x.openWeight());
        Check.due("7 the word weight before", 9, () -> x.setWeights(1, 1, 1, 1));
        Check.due("7 all 1", 5L, () -> x.openWeight());
        Check.due("7 the same again", 1, () -> x.setWeights(1, 1, 1, 1));
        Check.due("7 greatest", 1, () -> x.setWeights(9, 9, 9, 9));
        Check.due("7 all 9", 45L, () -> x.openWeight());
    }

    private static void abbreviations() {
        Fuzzyseg x = new Fuzzyseg();
        Texts.document(x, "w4 . w5");
        Check.badArgument("8 word -1", () -> x.addAbbreviation(-1));
        Check.badArgument("8 word 100", () -> x.addAbbreviation(100));
        Check.due("8 new", true, () -> x.addAbbreviation(4));
        Check.due("8 there already", false, () -> x.addAbbreviation(4));
        Check.due("8 least", true, () -> x.addAbbreviation(0));
        Check.due("8 greatest", true, () -> x.addAbbreviation(99));
        Check.due("8 the document stays cut", 2, () -> x.segments());
        Check.due("8 cut anew", 1, () -> Texts.document(x, "w4 . w5"));
    }
}
