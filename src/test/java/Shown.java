import java.util.function.Supplier;

/**
 * Tells as one text all that the calls show of a memory: its units, weights, words, terms and document,
 * and the draft and the source too, which only calls that take them show. As that uses a memory up, and
 * no object may be used for more than 512 calls, each part looks at one made anew.
 */
final class Shown {
    private final Fuzzyseg x;
    private final StringBuilder told;

    private Shown(Fuzzyseg x, StringBuilder told) {
        this.x = x;
        this.told = told;
    }

    static String allOf(Supplier<Fuzzyseg> made) {
        StringBuilder told = new StringBuilder();
        new Shown(made.get(), told).document();
        new Shown(made.get(), told).draftAndWeights();
        new Shown(made.get(), told).sourceAndUnits();
        new Shown(made.get(), told).targets();
        new Shown(made.get(), told).wordsAndTerms();
        return told.toString();
    }

    private void tell(String what, Check.Call call) {
        told.append(what).append(' ').append(Check.outcomeOf(call)).append('\n');
    }

    private void document() {
        tell("states", () -> Texts.states(x));
        tell("repeats", () -> x.repeats());
        tell("openWeight", () -> x.openWeight());
        tell("filledShare", () -> x.filledShare());
        int segments = x.segments();
        for (int i = 0; i < segments; i++) {
            int segment = i;
            tell("segment", () -> Texts.segment(x, segment));
            tell("target", () -> Texts.target(x, segment));
            tell("unitOf", () -> x.unitOf(segment));
            tell("scoreOf", () -> x.scoreOf(segment));
        }
    }

    private void draftAndWeights() {
        tell("best", () -> x.best());
        tell("meanLikeness", () -> x.meanLikeness());
        tell("open", () -> x.open());
        int segments = x.segments();
        for (int i = 0; i < segments; i++) {
            int segment = i;
            tell("segment", () -> Texts.segment(x, segment));
        }
        tell("openWeight", () -> x.openWeight());
        tell("setWeights", () -> x.setWeights(1, 1, 1, 1));
        tell("openWeight", () -> x.openWeight());
    }

    private void sourceAndUnits() {
        x.clear();
        x.word(1);
        tell("addUnit", () -> x.addUnit());
        tell("units", () -> x.units());
        int[] looked = {0, 1, 2, 3, 4, 39};
        for (int unit : looked) {
            tell("isLive", () -> x.isLive(unit));
        }
        for (String probe : Scenes.PROBES) {
            Texts.draft(x, probe);
            tell("best", () -> x.best());
            for (int unit : looked) {
                tell("cost", () -> x.cost(unit));
                tell("missing", () -> x.missing(unit));
            }
        }
    }

    private void targets() {
        for (String probe : Scenes.PROBES) {
            Texts.document(x, probe);
            x.fill(1);
            tell("target", () -> Texts.target(x, 0));
        }
    }

    private void wordsAndTerms() {
        for (int i = 0; i < 8; i++) {
            int word = i;
            tell("addAbbreviation", () -> x.addAbbreviation(word));
        }
        tell("the first term", () -> x.addTerm(1, 60));
        tell("one more term", () -> x.addTerm(99, 0));
    }
}
