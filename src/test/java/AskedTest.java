import java.util.List;
import java.util.function.Supplier;

/**
 * Calls that only ask change nothing, the draft included ("The draft stays"), and calls that change
 * something show it: so the twins of RefusedTest would show it, too.
 */
public final class AskedTest {
    private static final List<Supplier<Fuzzyseg>> SCENES = List.of(
            Scenes::fresh, Scenes::freshWithDraft, Scenes::noDocument, Scenes::allStates,
            Scenes::withSourceAndDraft, Scenes::fullDraft, Scenes::fullUnitsWithDraft,
            Scenes::nothingOffered, Scenes::noneLiveWithDraft);

    public static void main(String[] args) {
        asksOfUnits();
        asksOfSegments();
        asksOfAll();
        changes();
        Check.end();
    }

    private static void asked(String what, Scenes.Call call) {
        for (int i = 0; i < SCENES.size(); i++) {
            Supplier<Fuzzyseg> scene = SCENES.get(i);
            Fuzzyseg x = scene.get();
            Object answer = Check.outcomeOf(() -> call.on(x));
            Check.due(what + ", scene " + i + ", again", answer, () -> call.on(x));
            Supplier<Fuzzyseg> after = () -> Scenes.after(scene, call);
            Check.same(what + ", scene " + i + ", all that shows",
                    Shown.allOf(scene), Shown.allOf(after));
        }
    }

    private static void asksOfUnits() {
        for (int unit : new int[] {0, Scenes.WITHDRAWN_UNIT}) {
            asked("15 isLive " + unit, x -> x.isLive(unit));
            asked("16 cost " + unit, x -> x.cost(unit));
            asked("17 costFromEnds " + unit, x -> x.costFromEnds(unit));
            asked("18 likeness " + unit, x -> x.likeness(unit));
            asked("19 missing " + unit, x -> x.missing(unit));
            asked("20 score " + unit, x -> x.score(unit));
            asked("21 sharedPairs " + unit, x -> x.sharedPairs(unit));
        }
    }

    private static void asksOfSegments() {
        for (int segment = 0; segment <= Scenes.LAST_SEGMENT; segment++) {
            int number = segment;
            asked("28 stateOf " + segment, x -> x.stateOf(number));
            asked("29 unitOf " + segment, x -> x.unitOf(number));
            asked("30 scoreOf " + segment, x -> x.scoreOf(number));
            asked("31 segmentLength " + segment, x -> x.segmentLength(number));
            asked("32 segmentToken " + segment, x -> x.segmentToken(number, 1));
            asked("33 targetLength " + segment, x -> x.targetLength(number));
            asked("34 targetToken " + segment, x -> x.targetToken(number, 1));
            asked("35 targetKind " + segment, x -> x.targetKind(number, 1));
        }
    }

    private static void asksOfAll() {
        asked("14 units", Fuzzyseg::units);
        asked("22 best", Fuzzyseg::best);
        asked("23 bestOfAll", Fuzzyseg::bestOfAll);
        asked("25 segments", Fuzzyseg::segments);
        asked("36 repeats", Fuzzyseg::repeats);
        asked("37 openWeight", Fuzzyseg::openWeight);
        asked("38 filledShare", Fuzzyseg::filledShare);
        asked("39 meanLikeness", Fuzzyseg::meanLikeness);
        asked("40 isSound", Fuzzyseg::isSound);
    }

    private static void shows(String what, Scenes.Call call) {
        Supplier<Fuzzyseg> before = Scenes::withSourceAndDraft;
        Supplier<Fuzzyseg> after = () -> Scenes.after(before, call);
        Check.same(what + " shows", false, Shown.allOf(before).equals(Shown.allOf(after)));
    }

    private static void changes() {
        shows("2 word", x -> x.word(1));
        shows("3 number", x -> x.number(1));
        shows("4 tag", x -> x.tag(1));
        shows("5 mark", x -> x.mark('.'));
        shows("6 clear", x -> x.clear());
        shows("7 setWeights, words", x -> x.setWeights(4, 3, 2, 1));
        shows("7 setWeights, numbers", x -> x.setWeights(5, 4, 2, 1));
        shows("7 setWeights, tags", x -> x.setWeights(5, 3, 1, 1));
        shows("7 setWeights, marks", x -> x.setWeights(5, 3, 2, 2));
        shows("8 addAbbreviation", x -> x.addAbbreviation(7));
        shows("9 addTerm", x -> x.addTerm(1, 61));
        shows("10 takeSource", x -> x.takeSource());
        shows("11 addUnit", x -> x.addUnit());
        for (int unit : new int[] {0, 2, Scenes.LAST_UNIT}) {
            shows("12 correct " + unit, x -> x.correct(unit));
            shows("13 withdraw " + unit, x -> x.withdraw(unit));
        }
        shows("24 open", x -> x.open());
        shows("26 fill", x -> x.fill(1));
        for (int segment = 0; segment <= Scenes.LAST_SEGMENT; segment++) {
            int number = segment;
            shows("27 answer " + segment, x -> x.answer(number));
        }
    }
}
