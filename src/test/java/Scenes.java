import java.util.function.Supplier;

/** Memories in the states that a call can meet, each made anew and the same each time. */
final class Scenes {
    /** The sources in these scenes and texts that are a little like them. */
    static final String[] PROBES = {
        "w1 w2 n5 .", "w1 w3 n7 .", "w30 t3 !", "w40 w41 n6 ,", "w50 !", "w90 n1", "w20 ; w5"
    };
    static final int LAST_SEGMENT = 4;
    static final int EMPTY_SEGMENT = 3;
    static final int WITHDRAWN_UNIT = 1;
    static final int LAST_UNIT = 3;

    interface Call {
        Object on(Fuzzyseg x);
    }

    private Scenes() {
    }

    /** The scene after a call, whatever the call answers or throws. */
    static Fuzzyseg after(Supplier<Fuzzyseg> scene, Call call) {
        Fuzzyseg x = scene.get();
        Check.outcomeOf(() -> call.on(x));
        return x;
    }

    static Fuzzyseg fresh() {
        return new Fuzzyseg();
    }

    static Fuzzyseg freshWithDraft() {
        return draft(fresh());
    }

    static Fuzzyseg freshWithSource() {
        return source(fresh());
    }

    /** Without a document, a source and a draft; unit 1 is withdrawn. */
    private static Fuzzyseg someUnits() {
        Fuzzyseg x = new Fuzzyseg();
        x.setWeights(5, 3, 2, 1);
        x.addAbbreviation(4);
        x.addTerm(1, 60);
        x.addTerm(2, 65);
        Texts.unit(x, "w1 w2 n5 .", "w60 w61 n5 .");
        Texts.unit(x, "w30 t3 !", "w70 t3 !");
        Texts.unit(x, "w40 w41 n6 ,", "w80 n6 w81");
        x.withdraw(WITHDRAWN_UNIT);
        return x;
    }

    static Fuzzyseg noDocument() {
        return draft(someUnits());
    }

    /** One segment of each state: filled, repeated, answered, empty, filled by an equal unit. */
    static Fuzzyseg allStates() {
        Fuzzyseg x = someUnits();
        Texts.document(x, "w1 w2 n7 . w1 w2 n7 . w50 ! w51 n4 ? w40 w41 n6 ,");
        x.fill(60);
        Texts.answer(x, 2, "w75 n1 t2 ;");
        return x;
    }

    static Fuzzyseg withDraft() {
        return draft(allStates());
    }

    static Fuzzyseg withSource() {
        return source(allStates());
    }

    static Fuzzyseg withSourceAndDraft() {
        return draft(withSource());
    }

    static Fuzzyseg fullDraft() {
        Fuzzyseg x = withSource();
        Texts.put(x, Texts.repeat("w1 n2 t3 ,", 15));
        return x;
    }

    static Fuzzyseg fullTerms() {
        Fuzzyseg x = withDraft();
        for (int i = 0; i < 18; i++) {
            x.addTerm(20, i);
        }
        return x;
    }

    private static Fuzzyseg fortyUnits() {
        Fuzzyseg x = allStates();
        while (x.units() < 40) {
            Texts.unit(x, "w9" + x.units() % 10, "w2");
        }
        return x;
    }

    static Fuzzyseg fullUnitsWithoutSource() {
        return draft(fortyUnits());
    }

    static Fuzzyseg fullUnits() {
        return source(fortyUnits());
    }

    static Fuzzyseg fullUnitsWithDraft() {
        return draft(fullUnits());
    }

    static Fuzzyseg nothingOffered() {
        Fuzzyseg x = allStates();
        Texts.put(x, "t9 t8 ;");
        return x;
    }

    static Fuzzyseg noneLive() {
        Fuzzyseg x = allStates();
        for (int i = 0; i < x.units(); i++) {
            if (x.isLive(i)) {
                x.withdraw(i);
            }
        }
        return x;
    }

    static Fuzzyseg noneLiveWithDraft() {
        return draft(noneLive());
    }

    private static Fuzzyseg draft(Fuzzyseg x) {
        Texts.put(x, "w12 n34 t6 , w1 w2");
        return x;
    }

    private static Fuzzyseg source(Fuzzyseg x) {
        Texts.put(x, "w90 n1");
        x.takeSource();
        return x;
    }
}
