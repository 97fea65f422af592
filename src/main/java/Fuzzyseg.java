import java.util.ArrayList;
import java.util.List;
import java.util.NoSuchElementException;

/** A translation memory, as ../shared/DOC.md promises it. */
public final class Fuzzyseg {
    private static final int MAX_TOKENS = 60;
    private static final int MAX_UNITS = 40;
    private static final int MAX_TERMS = 20;
    private static final int WORD_VALUES = 100;
    private static final int NUMBER_VALUES = 10000;
    private static final int TAG_VALUES = 10;
    private static final int MAX_WEIGHT = 9;
    private static final int FULL = 100;
    private static final int TERM_PENALTY = 10;

    private static final int WORD = 0;
    private static final int NUMBER = 1;
    private static final int TAG = 2;
    private static final int MARK = 3;
    private static final int KINDS = 4;

    private static final int NONE = -1;

    private static final char EMPTY = 'e';
    private static final char EXACT = 'x';
    private static final char FUZZY = 'f';
    private static final char REPEATED = 'r';
    private static final char ANSWERED = 'a';

    private final Text draft = new Text();
    /** Without tokens while no source is taken: a source that is there has at least one. */
    private final Text takenSource = new Text();
    private final boolean[] abbreviations = new boolean[WORD_VALUES];
    private final Memory memory = new Memory();
    private final Edits edits = memory.edits;
    private final Weights weights = edits.weights;
    private final Terms terms = memory.terms;
    private final Pairs pairs = new Pairs();
    private final Document document = new Document();

    public Fuzzyseg() {
    }

    public int word(int value) throws IllegalArgumentException, IllegalStateException {
        requireBelow(value, WORD_VALUES);
        return putToken(WORD, value);
    }

    public int number(int value) throws IllegalArgumentException, IllegalStateException {
        requireBelow(value, NUMBER_VALUES);
        return putToken(NUMBER, value);
    }

    public int tag(int value) throws IllegalArgumentException, IllegalStateException {
        requireBelow(value, TAG_VALUES);
        return putToken(TAG, value);
    }

    public int mark(char mark) throws IllegalArgumentException, IllegalStateException {
        if (mark != '.' && mark != '!' && mark != '?' && mark != ',' && mark != ';') {
            throw new IllegalArgumentException("there is no such mark");
        }
        return putToken(MARK, mark);
    }

    public int clear() {
        int before = draft.size();
        draft.makeEmpty();
        return before;
    }

    public int setWeights(int word, int number, int tag, int mark) throws IllegalArgumentException {
        requireWeight(word);
        requireWeight(number);
        requireWeight(tag);
        requireWeight(mark);
        int before = weights.ofKind(WORD);
        weights.change(WORD, word);
        weights.change(NUMBER, number);
        weights.change(TAG, tag);
        weights.change(MARK, mark);
        return before;
    }

    public boolean addAbbreviation(int word) throws IllegalArgumentException {
        requireBelow(word, WORD_VALUES);
        boolean isNew = !abbreviations[word];
        abbreviations[word] = true;
        return isNew;
    }

    public int addTerm(int source, int target)
            throws IllegalArgumentException, UnsupportedOperationException, IllegalStateException {
        requireBelow(source, WORD_VALUES);
        requireBelow(target, WORD_VALUES);
        if (terms.has(source, target)) {
            throw new UnsupportedOperationException("there is this term already");
        }
        if (terms.size() >= MAX_TERMS) {
            throw new IllegalStateException("there are as many terms as there can be");
        }
        terms.put(source, target);
        return terms.size();
    }

    public int takeSource() throws IllegalStateException {
        requireDraft();
        takenSource.takeAll(draft);
        return takenSource.size();
    }

    public int addUnit() throws NoSuchElementException, IllegalStateException {
        if (takenSource.size() == 0) {
            throw new NoSuchElementException("no source is there");
        }
        requireDraft();
        requireRoomForUnit();
        int unit = memory.put(takenSource, draft);
        takenSource.makeEmpty();
        draft.makeEmpty();
        return unit;
    }

    public int correct(int unit)
            throws NoSuchElementException, UnsupportedOperationException, IllegalStateException {
        Unit chosen = liveUnitAt(unit);
        requireDraft();
        int before = chosen.target.size();
        chosen.target.takeAll(draft);
        return before;
    }

    public int withdraw(int unit) throws NoSuchElementException, UnsupportedOperationException {
        Unit chosen = liveUnitAt(unit);
        chosen.live = false;
        return memory.countLive();
    }

    public int units() {
        return memory.size();
    }

    public boolean isLive(int unit) throws NoSuchElementException {
        return unitAt(unit).live;
    }

    public int cost(int unit) throws NoSuchElementException, IllegalStateException {
        Unit chosen = unitForDraft(unit);
        return edits.costByRows(draft, chosen.source);
    }

    public int costFromEnds(int unit) throws NoSuchElementException, IllegalStateException {
        Unit chosen = unitForDraft(unit);
        return edits.costByTails(draft, chosen.source);
    }

    public int likeness(int unit) throws NoSuchElementException, IllegalStateException {
        Unit chosen = unitForDraft(unit);
        return edits.compare(draft, chosen.source);
    }

    public int missing(int unit) throws NoSuchElementException, IllegalStateException {
        Unit chosen = unitForDraft(unit);
        return terms.countMissed(draft, chosen.target);
    }

    public int score(int unit) throws NoSuchElementException, IllegalStateException {
        Unit chosen = unitForDraft(unit);
        return memory.rate(draft, chosen);
    }

    public int sharedPairs(int unit) throws NoSuchElementException, IllegalStateException {
        Unit chosen = unitForDraft(unit);
        return pairs.countShared(draft, chosen.source);
    }

    public int best() throws IllegalStateException, NoSuchElementException {
        requireDraft();
        return requireOffered(memory.findByBounds(draft));
    }

    public int bestOfAll() throws IllegalStateException, NoSuchElementException {
        requireDraft();
        return requireOffered(memory.findAmongAll(draft));
    }

    public int open() throws IllegalStateException {
        requireDraft();
        document.cut(draft, abbreviations);
        draft.makeEmpty();
        return document.size();
    }

    public int segments() {
        return document.size();
    }

    public int fill(int threshold) throws IllegalArgumentException {
        if (threshold < 1 || threshold > FULL) {
            throw new IllegalArgumentException("the threshold is out of range");
        }
        int filled = 0;
        for (int i = 0; i < document.size(); i++) {
            if (document.at(i).isEmpty() && fillSegment(i, threshold)) {
                filled++;
            }
        }
        return filled;
    }

    public int answer(int segment) throws IndexOutOfBoundsException, IllegalStateException {
        Segment chosen = segmentAt(segment);
        requireDraft();
        requireRoomForUnit();
        chosen.setAnswer(draft);
        memory.put(chosen.text, draft);
        draft.makeEmpty();
        return document.spreadAnswer(segment);
    }

    public char stateOf(int segment) throws IndexOutOfBoundsException {
        return segmentAt(segment).state;
    }

    public int unitOf(int segment) throws IndexOutOfBoundsException, NoSuchElementException {
        return segmentFilledByUnit(segment).fillingUnit;
    }

    public int scoreOf(int segment) throws IndexOutOfBoundsException, NoSuchElementException {
        return segmentFilledByUnit(segment).fillingScore;
    }

    public int segmentLength(int segment) throws IndexOutOfBoundsException {
        return segmentAt(segment).text.size();
    }

    public int segmentToken(int segment, int index) throws IndexOutOfBoundsException {
        Text text = segmentAt(segment).text;
        if (!text.hasPlace(index)) {
            throw new IndexOutOfBoundsException("there is no such token");
        }
        return Token.valueIn(text.at(index));
    }

    public int targetLength(int segment) throws IndexOutOfBoundsException, NoSuchElementException {
        return targetAt(segment).size();
    }

    public int targetToken(int segment, int index)
            throws IndexOutOfBoundsException, NoSuchElementException {
        return Token.valueIn(targetCode(segment, index));
    }

    public char targetKind(int segment, int index)
            throws IndexOutOfBoundsException, NoSuchElementException {
        return Token.letterOf(targetCode(segment, index));
    }

    public int repeats() {
        int count = 0;
        for (int i = 0; i < document.size(); i++) {
            if (document.hasEqualBefore(i)) {
                count++;
            }
        }
        return count;
    }

    public long openWeight() {
        long sum = 0;
        for (int i = 0; i < document.size(); i++) {
            Segment segment = document.at(i);
            if (segment.isEmpty()) {
                sum += weights.ofText(segment.text);
            }
        }
        return sum;
    }

    public float filledShare() throws ArithmeticException {
        int all = document.size();
        if (all == 0) {
            throw new ArithmeticException("there are no segments");
        }
        return (float) document.countNotEmpty() / (float) all;
    }

    public double meanLikeness() throws IllegalStateException, ArithmeticException {
        requireDraft();
        int live = memory.countLive();
        if (live == 0) {
            throw new ArithmeticException("no unit is live");
        }
        return (double) memory.sumLive(draft) / (double) live;
    }

    public boolean isSound() {
        for (int i = 0; i < document.size(); i++) {
            if (!memory.agreesOn(document.at(i).text)) {
                return false;
            }
        }
        return true;
    }

    private static void requireBelow(int value, int bound) {
        if (value < 0 || value >= bound) {
            throw new IllegalArgumentException("the value is out of range");
        }
    }

    private static void requireWeight(int weight) {
        if (weight < 1 || weight > MAX_WEIGHT) {
            throw new IllegalArgumentException("the weight is out of range");
        }
    }

    private static int requireOffered(int unit) {
        if (unit == NONE) {
            throw new NoSuchElementException("no unit is offered");
        }
        return unit;
    }

    private void requireDraft() {
        if (draft.size() == 0) {
            throw new IllegalStateException("the draft is empty");
        }
    }

    private void requireRoomForUnit() {
        if (memory.size() >= MAX_UNITS) {
            throw new IllegalStateException("there are as many units as there can be");
        }
    }

    private int putToken(int kind, int value) {
        if (draft.size() >= MAX_TOKENS) {
            throw new IllegalStateException("the draft is full");
        }
        draft.put(Token.codeOf(kind, value));
        return draft.size();
    }

    private Unit unitAt(int unit) {
        if (unit < 0 || unit >= memory.size()) {
            throw new NoSuchElementException("there is no such unit");
        }
        return memory.at(unit);
    }

    private Unit liveUnitAt(int unit) {
        Unit chosen = unitAt(unit);
        if (!chosen.live) {
            throw new UnsupportedOperationException("the unit is withdrawn");
        }
        return chosen;
    }

    private Unit unitForDraft(int unit) {
        Unit chosen = unitAt(unit);
        requireDraft();
        return chosen;
    }

    private Segment segmentAt(int segment) {
        if (segment < 0 || segment >= document.size()) {
            throw new IndexOutOfBoundsException("there is no such segment");
        }
        return document.at(segment);
    }

    private Segment segmentFilledByUnit(int segment) {
        Segment chosen = segmentAt(segment);
        if (chosen.fillingUnit == NONE) {
            throw new NoSuchElementException("the segment is not filled by a unit");
        }
        return chosen;
    }

    private Text targetAt(int segment) {
        Segment chosen = segmentAt(segment);
        if (chosen.isEmpty()) {
            throw new NoSuchElementException("the segment is empty");
        }
        return chosen.target;
    }

    private int targetCode(int segment, int index) {
        Text target = targetAt(segment);
        if (!target.hasPlace(index)) {
            throw new NoSuchElementException("the target has no such token");
        }
        return target.at(index);
    }

    /** Returns whether the segment, which is empty before, is not empty any more. */
    private boolean fillSegment(int index, int threshold) {
        Segment segment = document.at(index);
        int model = document.firstFilledEqualBefore(index);
        if (model != NONE) {
            segment.setRepeat(document.at(model).target);
            return true;
        }
        int unit = memory.findByBounds(segment.text);
        if (unit == NONE) {
            return false;
        }
        Unit chosen = memory.at(unit);
        int rated = memory.rate(segment.text, chosen);
        if (rated < threshold) {
            return false;
        }
        segment.setFilling(chosen, unit, rated);
        return true;
    }

    /** A token is one int, its kind and its value, so that equal tokens are equal ints. */
    private static final class Token {
        /** Above every value of every kind. */
        private static final int KIND_STEP = 10000;
        private static final int STEM_STEP = 10;

        static int codeOf(int kind, int value) {
            return kind * KIND_STEP + value;
        }

        static int kindIn(int code) {
            return code < 0 ? NONE : code / KIND_STEP;
        }

        static int valueIn(int code) {
            return code < 0 ? NONE : code % KIND_STEP;
        }

        static int stemIn(int code) {
            return code < 0 ? NONE : code % KIND_STEP / STEM_STEP;
        }

        static char letterOf(int code) {
            switch (kindIn(code)) {
                case WORD:
                    return 'w';
                case NUMBER:
                    return 'n';
                case TAG:
                    return 't';
                default:
                    return 'm';
            }
        }
    }

    /** A row of at most 60 tokens. */
    private static final class Text {
        private final int[] codes = new int[MAX_TOKENS];
        private int count = 0;

        int size() {
            return count;
        }

        boolean hasPlace(int index) {
            return index >= 0 && index < count;
        }

        /** Returns the token, or NONE beyond both ends, so that neighbours can be asked for. */
        int at(int index) {
            return index >= 0 && index < count ? codes[index] : NONE;
        }

        void put(int code) {
            if (count < codes.length) {
                codes[count] = code;
                count++;
            }
        }

        void replaceAt(int index, int code) {
            if (hasPlace(index)) {
                codes[index] = code;
            }
        }

        void makeEmpty() {
            count = 0;
        }

        void copyRange(Text other, int from, int to) {
            count = 0;
            for (int i = from; i < to; i++) {
                put(other.at(i));
            }
        }

        void copyAll(Text other) {
            copyRange(other, 0, other.size());
        }

        void takeAll(Text other) {
            copyAll(other);
            other.makeEmpty();
        }

        boolean isSameAs(Text other) {
            if (count != other.count) {
                return false;
            }
            for (int i = 0; i < count; i++) {
                if (at(i) != other.at(i)) {
                    return false;
                }
            }
            return true;
        }

        boolean has(int code) {
            for (int i = 0; i < count; i++) {
                if (at(i) == code) {
                    return true;
                }
            }
            return false;
        }

        int countKind(int kind) {
            int found = 0;
            for (int i = 0; i < count; i++) {
                if (Token.kindIn(at(i)) == kind) {
                    found++;
                }
            }
            return found;
        }

        /** Returns the place among the numbers that the first such number has, or NONE. */
        int placeOfNumber(int code) {
            int place = 0;
            for (int i = 0; i < count; i++) {
                if (at(i) == code) {
                    return place;
                }
                if (Token.kindIn(at(i)) == NUMBER) {
                    place++;
                }
            }
            return NONE;
        }

        /** Returns the number that has the place among the numbers, or NONE. */
        int numberAtPlace(int place) {
            int left = place;
            for (int i = 0; i < count; i++) {
                if (Token.kindIn(at(i)) == NUMBER) {
                    if (left == 0) {
                        return at(i);
                    }
                    left--;
                }
            }
            return NONE;
        }
    }

    /** What edits of each kind of tokens cost. */
    private static final class Weights {
        /** More than all tokens of two texts can cost, so that it is never the least. */
        private static final int IMPOSSIBLE = 1000000;

        private final int[] byKind = {4, 2, 1, 1};

        int ofKind(int kind) {
            return kind >= 0 && kind < byKind.length ? byKind[kind] : 0;
        }

        void change(int kind, int weight) {
            if (kind >= 0 && kind < byKind.length) {
                byKind[kind] = weight;
            }
        }

        int ofToken(int code) {
            return ofKind(Token.kindIn(code));
        }

        int ofText(Text text) {
            int sum = 0;
            for (int i = 0; i < text.size(); i++) {
                sum += ofKind(Token.kindIn(text.at(i)));
            }
            return sum;
        }

        int ofReplacing(int code, int other) {
            if (code == other) {
                return 0;
            }
            int kind = Token.kindIn(code);
            if (kind != Token.kindIn(other)) {
                return IMPOSSIBLE;
            }
            int whole = ofKind(kind);
            boolean isNear = kind == NUMBER
                    || kind == WORD && Token.stemIn(code) == Token.stemIn(other);
            return isNear ? (whole + 1) / 2 : whole;
        }
    }

    /** Compares texts. The rows serve every comparison. */
    private static final class Edits {
        final Weights weights = new Weights();
        private final int[] firstRow = new int[MAX_TOKENS + 1];
        private final int[] secondRow = new int[MAX_TOKENS + 1];
        private final int[] inserting = new int[MAX_TOKENS];

        int costByRows(Text text, Text other) {
            int[] above = firstRow;
            int[] here = secondRow;
            int width = Math.min(other.size(), MAX_TOKENS);
            above[0] = 0;
            for (int j = 1; j <= width; j++) {
                inserting[j - 1] = weights.ofToken(other.at(j - 1));
                above[j] = above[j - 1] + inserting[j - 1];
            }
            for (int i = 0; i < text.size(); i++) {
                int code = text.at(i);
                int deleting = weights.ofToken(code);
                here[0] = above[0] + deleting;
                for (int j = 1; j <= width; j++) {
                    int replacing = weights.ofReplacing(code, other.at(j - 1));
                    int byOne = Math.min(above[j] + deleting, here[j - 1] + inserting[j - 1]);
                    here[j] = Math.min(byOne, above[j - 1] + replacing);
                }
                int[] free = above;
                above = here;
                here = free;
            }
            return above[width];
        }

        int costByTails(Text text, Text other) {
            int[] below = firstRow;
            int[] here = secondRow;
            int width = Math.min(other.size(), MAX_TOKENS);
            below[width] = 0;
            for (int j = width - 1; j >= 0; j--) {
                inserting[j] = weights.ofToken(other.at(j));
                below[j] = below[j + 1] + inserting[j];
            }
            for (int i = text.size() - 1; i >= 0; i--) {
                int code = text.at(i);
                int deleting = weights.ofToken(code);
                here[width] = below[width] + deleting;
                for (int j = width - 1; j >= 0; j--) {
                    int replacing = weights.ofReplacing(code, other.at(j));
                    int byOne = Math.min(below[j] + deleting, here[j + 1] + inserting[j]);
                    here[j] = Math.min(byOne, below[j + 1] + replacing);
                }
                int[] free = below;
                below = here;
                here = free;
            }
            return below[0];
        }

        int compare(Text text, Text other) {
            return share(text, other, costByRows(text, other));
        }

        /** Returns a likeness that the two texts cannot exceed, without a look at their order. */
        int compareAtMost(Text text, Text other) {
            return share(text, other, costAtLeast(text, other));
        }

        /** No replacement changes how many tokens of a kind there are. */
        private int costAtLeast(Text text, Text other) {
            int sum = 0;
            for (int kind = 0; kind < KINDS; kind++) {
                int more = Math.abs(text.countKind(kind) - other.countKind(kind));
                sum += more * weights.ofKind(kind);
            }
            return sum;
        }

        private int share(Text text, Text other, int paid) {
            int weight = Math.max(weights.ofText(text), weights.ofText(other));
            if (weight <= 0 || paid >= weight) {
                return 0;
            }
            return FULL * (weight - paid) / weight;
        }
    }

    /** Words whose translation must be kept. */
    private static final class Terms {
        private final int[] sources = new int[MAX_TERMS];
        private final int[] targets = new int[MAX_TERMS];
        private int count = 0;

        int size() {
            return count;
        }

        boolean has(int source, int target) {
            for (int i = 0; i < count; i++) {
                if (sources[i] == source && targets[i] == target) {
                    return true;
                }
            }
            return false;
        }

        void put(int source, int target) {
            if (count < MAX_TERMS) {
                sources[count] = source;
                targets[count] = target;
                count++;
            }
        }

        int countMissed(Text text, Text translation) {
            int missed = 0;
            for (int i = 0; i < count; i++) {
                if (text.has(Token.codeOf(WORD, sources[i]))
                        && !translation.has(Token.codeOf(WORD, targets[i]))) {
                    missed++;
                }
            }
            return missed;
        }
    }

    private static final class Unit {
        final Text source = new Text();
        final Text target = new Text();
        boolean live = true;
    }

    /** The units, and the search among them. */
    private static final class Memory {
        final Edits edits = new Edits();
        final Terms terms = new Terms();
        private final List<Unit> rows = new ArrayList<Unit>();

        int size() {
            return rows.size();
        }

        /** The caller has looked at the number. */
        Unit at(int number) {
            return rows.get(number);
        }

        int put(Text source, Text target) {
            Unit made = new Unit();
            made.source.copyAll(source);
            made.target.copyAll(target);
            rows.add(made);
            return rows.size() - 1;
        }

        int countLive() {
            int live = 0;
            for (int i = 0; i < rows.size(); i++) {
                if (rows.get(i).live) {
                    live++;
                }
            }
            return live;
        }

        int sumLive(Text text) {
            int sum = 0;
            for (int i = 0; i < rows.size(); i++) {
                Unit row = rows.get(i);
                if (row.live) {
                    sum += edits.compare(text, row.source);
                }
            }
            return sum;
        }

        int rate(Text text, Unit row) {
            return lessMissed(edits.compare(text, row.source), terms.countMissed(text, row.target));
        }

        /** Goes from the highest number down, so that a later unit has to be truly better. */
        int findByBounds(Text text) {
            int found = NONE;
            int topScore = 0;
            int topLikeness = FULL;
            for (int i = rows.size() - 1; i >= 0; i--) {
                Unit row = rows.get(i);
                if (!row.live) {
                    continue;
                }
                int missed = terms.countMissed(text, row.target);
                int bound = edits.compareAtMost(text, row.source);
                if (!isBetter(lessMissed(bound, missed), bound, topScore, topLikeness)) {
                    continue;
                }
                int alike = edits.compare(text, row.source);
                int rated = lessMissed(alike, missed);
                if (isBetter(rated, alike, topScore, topLikeness)) {
                    found = i;
                    topScore = rated;
                    topLikeness = alike;
                }
            }
            return found;
        }

        int findAmongAll(Text text) {
            int found = NONE;
            int topScore = 0;
            int topLikeness = 0;
            for (int i = 0; i < rows.size(); i++) {
                Unit row = rows.get(i);
                int alike = edits.compare(text, row.source);
                int rated = lessMissed(alike, terms.countMissed(text, row.target));
                boolean isOffered = row.live && rated >= 1;
                if (isOffered && !isBetter(topScore, topLikeness, rated, alike)) {
                    found = i;
                    topScore = rated;
                    topLikeness = alike;
                }
            }
            return found;
        }

        boolean agreesOn(Text text) {
            for (int i = 0; i < rows.size(); i++) {
                Text source = rows.get(i).source;
                if (edits.costByRows(text, source) != edits.costByTails(text, source)) {
                    return false;
                }
            }
            return findByBounds(text) == findAmongAll(text);
        }

        private static int lessMissed(int alike, int missed) {
            return Math.max(0, alike - TERM_PENALTY * missed);
        }

        private static boolean isBetter(int rated, int alike, int otherRated, int otherAlike) {
            return rated > otherRated || rated == otherRated && alike > otherAlike;
        }
    }

    /** Counts pairs of neighbours. The two rows serve every count. */
    private static final class Pairs {
        private final Text left = new Text();
        private final Text right = new Text();

        int countShared(Text text, Text other) {
            copyPlain(text, left);
            copyPlain(other, right);
            int shared = 0;
            for (int i = 0; i + 1 < left.size(); i++) {
                int first = left.at(i);
                int second = left.at(i + 1);
                if (!hasPair(left, i, first, second)
                        && hasPair(right, right.size() - 1, first, second)) {
                    shared++;
                }
            }
            return shared;
        }

        private static void copyPlain(Text text, Text plain) {
            plain.makeEmpty();
            for (int i = 0; i < text.size(); i++) {
                int code = text.at(i);
                int kind = Token.kindIn(code);
                if (kind != TAG) {
                    plain.put(kind == NUMBER ? Token.codeOf(NUMBER, 0) : code);
                }
            }
        }

        /** Looks at the pairs that begin before the end. */
        private static boolean hasPair(Text text, int end, int first, int second) {
            for (int i = 0; i < end; i++) {
                if (text.at(i) == first && text.at(i + 1) == second) {
                    return true;
                }
            }
            return false;
        }
    }

    /** A text of the document and what was made of it. */
    private static final class Segment {
        final Text text = new Text();
        final Text target = new Text();
        char state = EMPTY;
        /** NONE if it is not filled by a unit. */
        int fillingUnit = NONE;
        int fillingScore = 0;

        boolean isEmpty() {
            return state == EMPTY;
        }

        void setFilling(Unit unit, int number, int rated) {
            target.copyAll(unit.target);
            if (text.countKind(NUMBER) == unit.source.countKind(NUMBER)) {
                adaptNumbers(unit.source);
            }
            state = rated == FULL ? EXACT : FUZZY;
            fillingUnit = number;
            fillingScore = rated;
        }

        void setRepeat(Text model) {
            setGiven(model, REPEATED);
        }

        void setAnswer(Text given) {
            setGiven(given, ANSWERED);
        }

        private void setGiven(Text given, char newState) {
            target.copyAll(given);
            state = newState;
            fillingUnit = NONE;
            fillingScore = 0;
        }

        private void adaptNumbers(Text source) {
            for (int i = 0; i < target.size(); i++) {
                int code = target.at(i);
                int place = Token.kindIn(code) == NUMBER ? source.placeOfNumber(code) : NONE;
                int fresh = place == NONE ? NONE : text.numberAtPlace(place);
                if (fresh != NONE) {
                    target.replaceAt(i, fresh);
                }
            }
        }
    }

    /** The segments; none before the first document. */
    private static final class Document {
        private final List<Segment> rows = new ArrayList<Segment>();

        int size() {
            return rows.size();
        }

        /** The caller has looked at the number. */
        Segment at(int number) {
            return rows.get(number);
        }

        void cut(Text whole, boolean[] abbreviations) {
            rows.clear();
            int start = 0;
            boolean isClosing = false;
            for (int i = 0; i < whole.size(); i++) {
                isClosing = isClosing || isEnd(whole, i, abbreviations);
                boolean isLast = i + 1 == whole.size();
                // Tags behind the end wait for the last of them.
                if (isLast || isClosing && Token.kindIn(whole.at(i + 1)) != TAG) {
                    Segment made = new Segment();
                    made.text.copyRange(whole, start, i + 1);
                    rows.add(made);
                    start = i + 1;
                    isClosing = false;
                }
            }
        }

        private static boolean isEnd(Text whole, int index, boolean[] abbreviations) {
            int code = whole.at(index);
            if (code == Token.codeOf(MARK, '!') || code == Token.codeOf(MARK, '?')) {
                return true;
            }
            if (code != Token.codeOf(MARK, '.')) {
                return false;
            }
            int before = whole.at(index - 1);
            int behind = whole.at(index + 1);
            boolean isInNumber = Token.kindIn(before) == NUMBER && Token.kindIn(behind) == NUMBER;
            return !isInNumber && !isAbbreviation(before, abbreviations);
        }

        private static boolean isAbbreviation(int code, boolean[] abbreviations) {
            int value = Token.valueIn(code);
            return Token.kindIn(code) == WORD
                    && value >= 0 && value < abbreviations.length && abbreviations[value];
        }

        boolean hasEqualBefore(int index) {
            Text text = at(index).text;
            for (int i = 0; i < index; i++) {
                if (at(i).text.isSameAs(text)) {
                    return true;
                }
            }
            return false;
        }

        int firstFilledEqualBefore(int index) {
            Text text = at(index).text;
            for (int i = 0; i < index; i++) {
                Segment other = at(i);
                if (!other.isEmpty() && other.text.isSameAs(text)) {
                    return i;
                }
            }
            return NONE;
        }

        int spreadAnswer(int index) {
            Segment answered = at(index);
            int reached = 0;
            for (int i = 0; i < rows.size(); i++) {
                Segment other = at(i);
                boolean isOpen = i != index && other.state != ANSWERED;
                if (isOpen && other.text.isSameAs(answered.text)) {
                    other.setRepeat(answered.target);
                    reached++;
                }
            }
            return reached;
        }

        int countNotEmpty() {
            int found = 0;
            for (int i = 0; i < rows.size(); i++) {
                if (!at(i).isEmpty()) {
                    found++;
                }
            }
            return found;
        }
    }
}
