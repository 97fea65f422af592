/** Promises 9 to 15: terms and units. */
public final class UnitsTest {
    public static void main(String[] args) {
        terms();
        fullTerms();
        takeSource();
        addUnit();
        fullUnits();
        correct();
        withdraw();
        unitsAndIsLive();
        Check.end();
    }

    private static void terms() {
        Fuzzyseg x = new Fuzzyseg();
        Check.badArgument("9 source -1", () -> x.addTerm(-1, 0));
        Check.badArgument("9 source 100", () -> x.addTerm(100, 0));
        Check.badArgument("9 target -1", () -> x.addTerm(0, -1));
        Check.badArgument("9 target 100", () -> x.addTerm(0, 100));
        Check.due("9 first", 1, () -> x.addTerm(0, 99));
        Check.due("9 turned round", 2, () -> x.addTerm(99, 0));
        Check.due("9 same source", 3, () -> x.addTerm(0, 98));
        Check.due("9 same target", 4, () -> x.addTerm(1, 99));
        Check.unsupported("9 there already", () -> x.addTerm(0, 99));
        Check.due("9 the next one", 5, () -> x.addTerm(5, 5));
    }

    private static void fullTerms() {
        Fuzzyseg x = new Fuzzyseg();
        for (int i = 0; i < 20; i++) {
            int value = i;
            Check.due("9 term " + i, i + 1, () -> x.addTerm(value, 50));
        }
        Check.badState("9 full", () -> x.addTerm(20, 50));
        Check.unsupported("9 full and there already", () -> x.addTerm(19, 50));
        Check.badArgument("9 full and out of range", () -> x.addTerm(19, 100));
        Texts.unit(x, "w1", "w49");
        Texts.draft(x, "w0 w19 w20");
        Check.due("9 no term was added", 2, () -> x.missing(0));
    }

    private static void takeSource() {
        Fuzzyseg x = new Fuzzyseg();
        Check.badState("10 empty draft", () -> x.takeSource());
        Texts.put(x, "w1 w2 w3");
        Check.due("10 three tokens", 3, () -> x.takeSource());
        Check.due("10 the draft is empty", 0, () -> x.clear());
        Texts.put(x, "w7 w8");
        Check.due("10 in place of the source before", 2, () -> x.takeSource());
        Check.badState("10 empty draft again", () -> x.takeSource());
        Texts.put(x, "w5");
        Check.due("10 unit", 0, () -> x.addUnit());
        Texts.put(x, "w7 w8");
        Check.due("10 the later source counts", 100, () -> x.likeness(0));
        x.clear();
        Texts.put(x, Texts.repeat("n1", 60));
        Check.due("10 sixty tokens", 60, () -> x.takeSource());
    }

    private static void addUnit() {
        Fuzzyseg x = new Fuzzyseg();
        Check.noElement("11 no source, empty draft", () -> x.addUnit());
        Texts.put(x, "w1");
        Check.noElement("11 no source", () -> x.addUnit());
        Check.due("11 the draft stays when it throws", 1, () -> x.takeSource());
        Check.badState("11 empty draft", () -> x.addUnit());
        Texts.put(x, "w2 w3");
        Check.due("11 unit 0", 0, () -> x.addUnit());
        Check.due("11 the draft is empty", 0, () -> x.clear());
        Texts.put(x, "w4");
        Check.noElement("11 the source is not there any more", () -> x.addUnit());
        Check.due("11 unit 1", 1, () -> Texts.unit(x, "w4", "w5"));
        Texts.draft(x, "w1");
        Check.due("11 the source of unit 0", 0, () -> x.cost(0));
        Check.due("11 the source of unit 1", 2, () -> x.cost(1));
        Check.due("11 the target of unit 0", 2, () -> x.correct(0));
    }

    private static void fullUnits() {
        Fuzzyseg x = new Fuzzyseg();
        for (int i = 0; i < 40; i++) {
            String row = "w" + i;
            Check.due("11 unit " + i, i, () -> Texts.unit(x, row, "w1"));
        }
        x.withdraw(3);
        Check.noElement("11 full and no source", () -> x.addUnit());
        Texts.put(x, "w1 w2");
        Check.due("10 full", 2, () -> x.takeSource());
        Check.badState("11 full and empty draft", () -> x.addUnit());
        Texts.put(x, "w1");
        Check.badState("11 full", () -> x.addUnit());
        Check.due("11 the draft stays", 1, () -> x.clear());
        Check.due("14 full", 40, () -> x.units());
        Texts.document(x, "w50");
        Texts.put(x, "w2 w3");
        Check.badState("27 full", () -> x.answer(0));
        Check.badIndex("27 full and no such segment", () -> x.answer(1));
        Check.due("27 the segment stays empty", 'e', () -> x.stateOf(0));
        Check.due("27 the draft stays", 2, () -> x.clear());
    }

    private static void correct() {
        Fuzzyseg x = new Fuzzyseg();
        x.addTerm(1, 60);
        Texts.unit(x, "w1", "w2 w3 w4");
        Check.noElement("12 unit -1", () -> x.correct(-1));
        Check.noElement("12 unit 1", () -> x.correct(1));
        Check.badState("12 empty draft", () -> x.correct(0));
        Texts.put(x, "w1");
        Check.due("12 missed before", 1, () -> x.missing(0));
        Texts.draft(x, "w60 w61");
        Check.due("12 the target before", 3, () -> x.correct(0));
        Check.due("12 the draft is empty", 0, () -> x.clear());
        Texts.put(x, "w1");
        Check.due("12 not missed any more", 0, () -> x.missing(0));
        Check.due("12 the source stays", 100, () -> x.likeness(0));
        Check.due("12 the target before, again", 2, () -> x.correct(0));
        x.withdraw(0);
        Check.unsupported("12 withdrawn and empty draft", () -> x.correct(0));
        Texts.put(x, "w1");
        Check.unsupported("12 withdrawn", () -> x.correct(0));
        Check.due("12 the draft stays", 1, () -> x.clear());
    }

    private static void withdraw() {
        Fuzzyseg x = new Fuzzyseg();
        Check.noElement("13 no units", () -> x.withdraw(0));
        Texts.unit(x, "w1", "w2");
        Texts.unit(x, "w3", "w4");
        Texts.unit(x, "w5", "w6");
        Check.noElement("13 unit -1", () -> x.withdraw(-1));
        Check.noElement("13 unit 3", () -> x.withdraw(3));
        Check.due("13 two live", 2, () -> x.withdraw(1));
        Check.unsupported("13 already", () -> x.withdraw(1));
        Check.due("13 one live", 1, () -> x.withdraw(0));
        Check.due("13 none live", 0, () -> x.withdraw(2));
        Texts.put(x, "w1");
        Check.noElement("13 none is offered", () -> x.best());
    }

    private static void unitsAndIsLive() {
        Fuzzyseg x = new Fuzzyseg();
        Check.noElement("15 no units", () -> x.isLive(0));
        Texts.unit(x, "w1", "w2");
        Texts.unit(x, "w3", "w4");
        Check.due("14 two", 2, () -> x.units());
        x.withdraw(0);
        Check.due("14 withdrawn ones included", 2, () -> x.units());
        Check.due("15 withdrawn", false, () -> x.isLive(0));
        Check.due("15 live", true, () -> x.isLive(1));
        Check.noElement("15 unit -1", () -> x.isLive(-1));
        Check.noElement("15 unit 2", () -> x.isLive(2));
    }
}
