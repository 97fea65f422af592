import java.util.function.Supplier;

/**
 * 'Exceptions': each refused call throws what the document names, the first one that is listed if
 * several apply, and changes nothing: a memory shows afterwards all that its twin shows that was made by
 * the same calls without the refused one.
 */
public final class RefusedTest {
    private static final String ARGUMENT = "throws.IllegalArgumentException";
    private static final String STATE = "throws.IllegalStateException";
    private static final String ELEMENT = "throws.NoSuchElementException";
    private static final String UNSUPPORTED = "throws.UnsupportedOperationException";
    private static final String INDEX = "throws.IndexOutOfBoundsException";
    private static final String ARITHMETIC = "throws.ArithmeticException";
    private static final int LEAST = Integer.MIN_VALUE;
    private static final int GREATEST = Integer.MAX_VALUE;

    interface CallWithNumber {
        Object on(Fuzzyseg x, int number);
    }

    public static void main(String[] args) {
        tokensOutOfRange();
        tokensBeyondSixty();
        weights();
        abbreviationsAndTerms();
        takeSource();
        addUnit();
        correct();
        withdraw();
        noSuchUnit();
        emptyDraftForUnits();
        best();
        open();
        fill();
        answer();
        noSuchSegment();
        noSuchTokenOfSegment();
        notFilledByUnit();
        emptySegment();
        noSuchTokenOfTarget();
        shareAndMean();
        Check.end();
    }

    private static void refused(String what, String due, Supplier<Fuzzyseg> scene, Scenes.Call call) {
        Fuzzyseg asked = scene.get();
        Check.due(what, due, () -> call.on(asked));
        Supplier<Fuzzyseg> after = () -> Scenes.after(scene, call);
        Check.same(what + ", all that shows", Shown.allOf(scene), Shown.allOf(after));
    }

    private static void refusedNumbers(String what, String due, Supplier<Fuzzyseg> scene,
            CallWithNumber call, int... numbers) {
        for (int number : numbers) {
            refused(what + " " + number, due, scene, x -> call.on(x, number));
        }
    }

    private static void tokensOutOfRange() {
        refusedNumbers("2 word", ARGUMENT, Scenes::withDraft, Fuzzyseg::word, -1, 100, LEAST, GREATEST);
        refusedNumbers("3 number", ARGUMENT, Scenes::withDraft, Fuzzyseg::number,
                -1, 10000, LEAST, GREATEST);
        refusedNumbers("4 tag", ARGUMENT, Scenes::withDraft, Fuzzyseg::tag, -1, 10, LEAST, GREATEST);
        // Next to each mark, those marks left out that stand side by side.
        refusedNumbers("5 mark", ARGUMENT, Scenes::withDraft, (x, code) -> x.mark((char) code),
                0, '!' - 1, '!' + 1, ',' - 1, ',' + 1, '.' + 1, ';' - 1, ';' + 1, '?' - 1, '?' + 1,
                'w', 255, 256 + '.', 65535);
    }

    private static void tokensBeyondSixty() {
        refused("2 full", STATE, Scenes::fullDraft, x -> x.word(1));
        refused("3 full", STATE, Scenes::fullDraft, x -> x.number(1));
        refused("4 full", STATE, Scenes::fullDraft, x -> x.tag(1));
        refused("5 full", STATE, Scenes::fullDraft, x -> x.mark('.'));
        refusedNumbers("2 full, word", ARGUMENT, Scenes::fullDraft, Fuzzyseg::word, -1, 100);
        refusedNumbers("3 full, number", ARGUMENT, Scenes::fullDraft, Fuzzyseg::number, -1, 10000);
        refusedNumbers("4 full, tag", ARGUMENT, Scenes::fullDraft, Fuzzyseg::tag, -1, 10);
        refused("5 full, no mark", ARGUMENT, Scenes::fullDraft, x -> x.mark(':'));
    }

    private static void weights() {
        int[] bad = {0, 10, -1, LEAST, GREATEST};
        refusedNumbers("7 word", ARGUMENT, Scenes::withDraft, (x, w) -> x.setWeights(w, 9, 9, 9), bad);
        refusedNumbers("7 number", ARGUMENT, Scenes::withDraft, (x, w) -> x.setWeights(9, w, 9, 9), bad);
        refusedNumbers("7 tag", ARGUMENT, Scenes::withDraft, (x, w) -> x.setWeights(9, 9, w, 9), bad);
        refusedNumbers("7 mark", ARGUMENT, Scenes::withDraft, (x, w) -> x.setWeights(9, 9, 9, w), bad);
    }

    private static void abbreviationsAndTerms() {
        int[] bad = {-1, 100, LEAST, GREATEST};
        refusedNumbers("8 word", ARGUMENT, Scenes::withDraft, Fuzzyseg::addAbbreviation, bad);
        refusedNumbers("9 source", ARGUMENT, Scenes::withDraft, (x, word) -> x.addTerm(word, 1), bad);
        refusedNumbers("9 target", ARGUMENT, Scenes::withDraft, (x, word) -> x.addTerm(1, word), bad);
        refused("9 this term already", UNSUPPORTED, Scenes::withDraft, x -> x.addTerm(1, 60));
        refused("9 twenty terms", STATE, Scenes::fullTerms, x -> x.addTerm(1, 61));
        refused("9 twenty terms, the first one", UNSUPPORTED, Scenes::fullTerms, x -> x.addTerm(1, 60));
        refused("9 twenty terms, the last one", UNSUPPORTED, Scenes::fullTerms, x -> x.addTerm(20, 17));
        refusedNumbers("9 twenty terms, source", ARGUMENT, Scenes::fullTerms,
                (x, word) -> x.addTerm(word, 60), bad);
        refusedNumbers("9 twenty terms, target", ARGUMENT, Scenes::fullTerms,
                (x, word) -> x.addTerm(1, word), bad);
    }

    private static void takeSource() {
        refused("10 empty draft, new", STATE, Scenes::fresh, Fuzzyseg::takeSource);
        refused("10 empty draft", STATE, Scenes::allStates, Fuzzyseg::takeSource);
        refused("10 empty draft, a source is there", STATE, Scenes::withSource, Fuzzyseg::takeSource);
    }

    private static void addUnit() {
        refused("11 no source, new", ELEMENT, Scenes::freshWithDraft, Fuzzyseg::addUnit);
        refused("11 no source", ELEMENT, Scenes::withDraft, Fuzzyseg::addUnit);
        refused("11 no source, empty draft", ELEMENT, Scenes::allStates, Fuzzyseg::addUnit);
        refused("11 empty draft, new", STATE, Scenes::freshWithSource, Fuzzyseg::addUnit);
        refused("11 empty draft", STATE, Scenes::withSource, Fuzzyseg::addUnit);
        refused("11 forty units", STATE, Scenes::fullUnitsWithDraft, Fuzzyseg::addUnit);
        refused("11 forty units, empty draft", STATE, Scenes::fullUnits, Fuzzyseg::addUnit);
        refused("11 forty units, no source", ELEMENT, Scenes::fullUnitsWithoutSource, Fuzzyseg::addUnit);
    }

    private static void correct() {
        int[] bad = {-1, Scenes.LAST_UNIT + 1, LEAST, GREATEST};
        refusedNumbers("12 unit", ELEMENT, Scenes::withDraft, Fuzzyseg::correct, bad);
        refusedNumbers("12 empty draft, unit", ELEMENT, Scenes::allStates, Fuzzyseg::correct, bad);
        refused("12 no units", ELEMENT, Scenes::freshWithDraft, x -> x.correct(0));
        refused("12 forty units", ELEMENT, Scenes::fullUnitsWithDraft, x -> x.correct(40));
        refused("12 withdrawn", UNSUPPORTED, Scenes::withDraft, x -> x.correct(Scenes.WITHDRAWN_UNIT));
        refused("12 withdrawn, empty draft", UNSUPPORTED, Scenes::allStates,
                x -> x.correct(Scenes.WITHDRAWN_UNIT));
        refused("12 empty draft", STATE, Scenes::allStates, x -> x.correct(0));
    }

    private static void withdraw() {
        refusedNumbers("13 unit", ELEMENT, Scenes::withDraft, Fuzzyseg::withdraw,
                -1, Scenes.LAST_UNIT + 1, LEAST, GREATEST);
        refused("13 no units", ELEMENT, Scenes::freshWithDraft, x -> x.withdraw(0));
        refused("13 forty units", ELEMENT, Scenes::fullUnits, x -> x.withdraw(40));
        refused("13 withdrawn already", UNSUPPORTED, Scenes::withDraft,
                x -> x.withdraw(Scenes.WITHDRAWN_UNIT));
    }

    private static void noSuchUnit(String what, CallWithNumber call) {
        int[] bad = {-1, Scenes.LAST_UNIT + 1, LEAST, GREATEST};
        refusedNumbers(what + ", unit", ELEMENT, Scenes::withDraft, call, bad);
        refusedNumbers(what + ", empty draft, unit", ELEMENT, Scenes::allStates, call, bad);
        refusedNumbers(what + ", no units", ELEMENT, Scenes::freshWithDraft, call, -1, 0);
        refusedNumbers(what + ", forty units", ELEMENT, Scenes::fullUnitsWithDraft, call, -1, 40);
    }

    private static void noSuchUnit() {
        noSuchUnit("15 isLive", Fuzzyseg::isLive);
        noSuchUnit("16 cost", Fuzzyseg::cost);
        noSuchUnit("17 costFromEnds", Fuzzyseg::costFromEnds);
        noSuchUnit("18 likeness", Fuzzyseg::likeness);
        noSuchUnit("19 missing", Fuzzyseg::missing);
        noSuchUnit("20 score", Fuzzyseg::score);
        noSuchUnit("21 sharedPairs", Fuzzyseg::sharedPairs);
    }

    private static void emptyDraft(String what, CallWithNumber call) {
        refusedNumbers(what + ", empty draft, unit", STATE, Scenes::allStates, call,
                0, Scenes.WITHDRAWN_UNIT, Scenes.LAST_UNIT);
    }

    private static void emptyDraftForUnits() {
        emptyDraft("16 cost", Fuzzyseg::cost);
        emptyDraft("17 costFromEnds", Fuzzyseg::costFromEnds);
        emptyDraft("18 likeness", Fuzzyseg::likeness);
        emptyDraft("19 missing", Fuzzyseg::missing);
        emptyDraft("20 score", Fuzzyseg::score);
        emptyDraft("21 sharedPairs", Fuzzyseg::sharedPairs);
    }

    private static void best(String what, Scenes.Call call) {
        refused(what + ", empty draft", STATE, Scenes::allStates, call);
        refused(what + ", empty draft and no units", STATE, Scenes::fresh, call);
        refused(what + ", empty draft and none live", STATE, Scenes::noneLive, call);
        refused(what + ", no units", ELEMENT, Scenes::freshWithDraft, call);
        refused(what + ", none is offered", ELEMENT, Scenes::nothingOffered, call);
        refused(what + ", none is live", ELEMENT, Scenes::noneLiveWithDraft, call);
    }

    private static void best() {
        best("22 best", Fuzzyseg::best);
        best("23 bestOfAll", Fuzzyseg::bestOfAll);
    }

    private static void open() {
        refused("24 empty draft, new", STATE, Scenes::fresh, Fuzzyseg::open);
        refused("24 empty draft, a document is there", STATE, Scenes::withSource, Fuzzyseg::open);
    }

    private static void fill() {
        int[] bad = {0, 101, -1, LEAST, GREATEST};
        refusedNumbers("26 threshold", ARGUMENT, Scenes::withDraft, Fuzzyseg::fill, bad);
        refusedNumbers("26 no document, threshold", ARGUMENT, Scenes::noDocument, Fuzzyseg::fill, bad);
    }

    private static void answer() {
        int[] bad = {-1, Scenes.LAST_SEGMENT + 1, LEAST, GREATEST};
        refusedNumbers("27 segment", INDEX, Scenes::withDraft, Fuzzyseg::answer, bad);
        refusedNumbers("27 empty draft, segment", INDEX, Scenes::allStates, Fuzzyseg::answer, bad);
        refusedNumbers("27 forty units, segment", INDEX, Scenes::fullUnitsWithDraft, Fuzzyseg::answer, bad);
        refused("27 no document", INDEX, Scenes::noDocument, x -> x.answer(0));
        for (int i = 0; i <= Scenes.LAST_SEGMENT; i++) {
            int segment = i;
            refused("27 empty draft " + i, STATE, Scenes::allStates, x -> x.answer(segment));
            refused("27 forty units " + i, STATE, Scenes::fullUnitsWithDraft, x -> x.answer(segment));
        }
    }

    private static void noSuchSegment(String what, CallWithNumber call) {
        refusedNumbers(what + ", segment", INDEX, Scenes::withDraft, call,
                -1, Scenes.LAST_SEGMENT + 1, 60, LEAST, GREATEST);
        refusedNumbers(what + ", no document, segment", INDEX, Scenes::noDocument, call, -1, 0);
    }

    private static void noSuchSegment() {
        noSuchSegment("28 stateOf", Fuzzyseg::stateOf);
        noSuchSegment("29 unitOf", Fuzzyseg::unitOf);
        noSuchSegment("30 scoreOf", Fuzzyseg::scoreOf);
        noSuchSegment("31 segmentLength", Fuzzyseg::segmentLength);
        noSuchSegment("33 targetLength", Fuzzyseg::targetLength);
        for (int index : new int[] {0, -1, 60}) {
            noSuchSegment("32 segmentToken " + index, (x, segment) -> x.segmentToken(segment, index));
            noSuchSegment("34 targetToken " + index, (x, segment) -> x.targetToken(segment, index));
            noSuchSegment("35 targetKind " + index, (x, segment) -> x.targetKind(segment, index));
        }
    }

    private static void noSuchTokenOfSegment() {
        for (int i = 0; i <= Scenes.LAST_SEGMENT; i++) {
            int segment = i;
            int length = Scenes.allStates().segmentLength(segment);
            refusedNumbers("32 segment " + i + ", token", INDEX, Scenes::withDraft,
                    (x, index) -> x.segmentToken(segment, index), -1, length, 60, LEAST, GREATEST);
        }
    }

    private static void notFilledByUnit() {
        int[] repeatedAnsweredEmpty = {1, 2, Scenes.EMPTY_SEGMENT};
        refusedNumbers("29 segment", ELEMENT, Scenes::withDraft, Fuzzyseg::unitOf, repeatedAnsweredEmpty);
        refusedNumbers("30 segment", ELEMENT, Scenes::withDraft, Fuzzyseg::scoreOf, repeatedAnsweredEmpty);
    }

    private static void emptySegment() {
        int empty = Scenes.EMPTY_SEGMENT;
        refused("33 empty", ELEMENT, Scenes::withDraft, x -> x.targetLength(empty));
        int[] indexes = {0, -1, 60, LEAST, GREATEST};
        refusedNumbers("34 empty, token", ELEMENT, Scenes::withDraft,
                (x, index) -> x.targetToken(empty, index), indexes);
        refusedNumbers("35 empty, token", ELEMENT, Scenes::withDraft,
                (x, index) -> x.targetKind(empty, index), indexes);
    }

    private static void noSuchTokenOfTarget() {
        for (int segment : new int[] {0, 1, 2, Scenes.LAST_SEGMENT}) {
            int length = Scenes.allStates().targetLength(segment);
            int[] bad = {-1, length, 60, LEAST, GREATEST};
            refusedNumbers("34 segment " + segment + ", token", ELEMENT, Scenes::withDraft,
                    (x, index) -> x.targetToken(segment, index), bad);
            refusedNumbers("35 segment " + segment + ", token", ELEMENT, Scenes::withDraft,
                    (x, index) -> x.targetKind(segment, index), bad);
        }
    }

    private static void shareAndMean() {
        refused("38 no segments", ARITHMETIC, Scenes::noDocument, Fuzzyseg::filledShare);
        refused("38 no segments, new", ARITHMETIC, Scenes::fresh, Fuzzyseg::filledShare);
        refused("39 empty draft", STATE, Scenes::allStates, Fuzzyseg::meanLikeness);
        refused("39 empty draft, no units", STATE, Scenes::fresh, Fuzzyseg::meanLikeness);
        refused("39 empty draft, none is live", STATE, Scenes::noneLive, Fuzzyseg::meanLikeness);
        refused("39 no units", ARITHMETIC, Scenes::freshWithDraft, Fuzzyseg::meanLikeness);
        refused("39 none is live", ARITHMETIC, Scenes::noneLiveWithDraft, Fuzzyseg::meanLikeness);
    }
}
