import java.util.ArrayList;
import java.util.Arrays;
import java.util.HashMap;
import java.util.HashSet;
import java.util.List;
import java.util.Map;
import java.util.NoSuchElementException;
import java.util.Set;
import java.util.TreeSet;

/** The document's words once more, as plainly as the Java library allows and without regard to speed. */
final class Model {
    record Token(char kind, int value) {
    }

    private static final class Unit {
        private List<Token> source;
        private List<Token> target;
        private boolean live = true;
    }

    private static final class Segment {
        private List<Token> text;
        private List<Token> target;
        private char state = 'e';
        private int unit;
        private int score;
    }

    private final List<Token> draft = new ArrayList<>();
    private List<Token> source = null;
    private final Map<Character, Integer> weights = new HashMap<>(Map.of('w', 4, 'n', 2, 't', 1, 'm', 1));
    private final Set<Integer> abbreviations = new HashSet<>();
    private final List<List<Integer>> terms = new ArrayList<>();
    private final List<Unit> units = new ArrayList<>();
    private List<Segment> segments = new ArrayList<>();

    int token(char kind, int value) {
        boolean isRight = switch (kind) {
            case 'w' -> value >= 0 && value <= 99;
            case 'n' -> value >= 0 && value <= 9999;
            case 't' -> value >= 0 && value <= 9;
            default -> value == '.' || value == '!' || value == '?' || value == ',' || value == ';';
        };
        if (!isRight) {
            throw new IllegalArgumentException();
        }
        if (draft.size() == 60) {
            throw new IllegalStateException();
        }
        draft.add(new Token(kind, value));
        return draft.size();
    }

    int clear() {
        return taken().size();
    }

    private List<Token> taken() {
        List<Token> text = new ArrayList<>(draft);
        draft.clear();
        return text;
    }

    int setWeights(int word, int number, int tag, int mark) {
        for (int weight : new int[] {word, number, tag, mark}) {
            if (weight < 1 || weight > 9) {
                throw new IllegalArgumentException();
            }
        }
        int before = weights.get('w');
        weights.putAll(Map.of('w', word, 'n', number, 't', tag, 'm', mark));
        return before;
    }

    private static void wordValue(int value) {
        if (value < 0 || value > 99) {
            throw new IllegalArgumentException();
        }
    }

    boolean addAbbreviation(int word) {
        wordValue(word);
        return abbreviations.add(word);
    }

    int addTerm(int from, int to) {
        wordValue(from);
        wordValue(to);
        if (terms.contains(List.of(from, to))) {
            throw new UnsupportedOperationException();
        }
        if (terms.size() == 20) {
            throw new IllegalStateException();
        }
        terms.add(List.of(from, to));
        return terms.size();
    }

    private void needDraft() {
        if (draft.isEmpty()) {
            throw new IllegalStateException();
        }
    }

    int takeSource() {
        needDraft();
        source = taken();
        return source.size();
    }

    int addUnit() {
        if (source == null) {
            throw new NoSuchElementException();
        }
        needDraft();
        if (units.size() == 40) {
            throw new IllegalStateException();
        }
        addUnit(source, taken());
        source = null;
        return units.size() - 1;
    }

    private void addUnit(List<Token> from, List<Token> to) {
        Unit unit = new Unit();
        unit.source = from;
        unit.target = to;
        units.add(unit);
    }

    private Unit unit(int number) {
        if (number < 0 || number >= units.size()) {
            throw new NoSuchElementException();
        }
        return units.get(number);
    }

    private Unit liveUnit(int number) {
        if (!unit(number).live) {
            throw new UnsupportedOperationException();
        }
        return unit(number);
    }

    int correct(int number) {
        Unit unit = liveUnit(number);
        needDraft();
        int before = unit.target.size();
        unit.target = taken();
        return before;
    }

    int withdraw(int number) {
        liveUnit(number).live = false;
        int live = 0;
        for (Unit unit : units) {
            live += unit.live ? 1 : 0;
        }
        return live;
    }

    int units() {
        return units.size();
    }

    boolean isLive(int number) {
        return unit(number).live;
    }

    private int weight(List<Token> text) {
        int sum = 0;
        for (Token token : text) {
            sum += weights.get(token.kind());
        }
        return sum;
    }

    private int replacing(Token one, Token other) {
        int whole = weights.get(one.kind());
        int half = (int) Math.ceil(whole / 2.0);
        boolean isNear = one.kind() == 'n' || one.kind() == 'w' && one.value() / 10 == other.value() / 10;
        return one.equals(other) ? 0 : isNear ? half : whole;
    }

    private int cost(List<Token> one, List<Token> other, int[][] known) {
        if (one.isEmpty() || other.isEmpty()) {
            return weight(one) + weight(other);
        }
        if (known[one.size()][other.size()] >= 0) {
            return known[one.size()][other.size()];
        }
        Token first = one.get(0);
        Token second = other.get(0);
        List<Token> restOfOne = one.subList(1, one.size());
        List<Token> restOfOther = other.subList(1, other.size());
        int least = Math.min(weights.get(first.kind()) + cost(restOfOne, other, known),
                weights.get(second.kind()) + cost(one, restOfOther, known));
        if (first.kind() == second.kind()) {
            least = Math.min(least, replacing(first, second) + cost(restOfOne, restOfOther, known));
        }
        known[one.size()][other.size()] = least;
        return least;
    }

    private int cost(List<Token> one, List<Token> other) {
        int[][] known = new int[one.size() + 1][other.size() + 1];
        for (int[] row : known) {
            Arrays.fill(row, -1);
        }
        return cost(one, other, known);
    }

    private int likeness(List<Token> text, Unit unit) {
        int weight = Math.max(weight(text), weight(unit.source));
        int cost = cost(text, unit.source);
        return Math.max(0, Math.floorDiv(100 * (weight - cost), weight));
    }

    private int missing(List<Token> text, Unit unit) {
        int missed = 0;
        for (List<Integer> term : terms) {
            boolean isThere = text.contains(new Token('w', term.get(0)));
            missed += isThere && !unit.target.contains(new Token('w', term.get(1))) ? 1 : 0;
        }
        return missed;
    }

    private int score(List<Token> text, Unit unit) {
        return Math.max(0, likeness(text, unit) - 10 * missing(text, unit));
    }

    private Unit unitForDraft(int number) {
        unit(number);
        needDraft();
        return unit(number);
    }

    int cost(int number) {
        return cost(draft, unitForDraft(number).source);
    }

    int likeness(int number) {
        return likeness(draft, unitForDraft(number));
    }

    int missing(int number) {
        return missing(draft, unitForDraft(number));
    }

    int score(int number) {
        return score(draft, unitForDraft(number));
    }

    private static Set<String> pairs(List<Token> text) {
        List<String> plain = new ArrayList<>();
        for (Token token : text) {
            if (token.kind() == 'n') {
                plain.add("number");
            } else if (token.kind() != 't') {
                plain.add(token.toString());
            }
        }
        Set<String> pairs = new TreeSet<>();
        for (int i = 1; i < plain.size(); i++) {
            pairs.add(plain.get(i - 1) + plain.get(i));
        }
        return pairs;
    }

    int sharedPairs(int number) {
        Unit unit = unitForDraft(number);
        Set<String> shared = pairs(draft);
        shared.retainAll(pairs(unit.source));
        return shared.size();
    }

    private int best(List<Token> text) {
        int best = -1;
        long bestRank = 0;
        for (int i = 0; i < units.size(); i++) {
            Unit unit = units.get(i);
            long score = unit.live ? score(text, unit) : 0;
            long rank = (score * 1000 + likeness(text, unit)) * 1000 + i;
            if (score >= 1 && rank >= bestRank) {
                best = i;
                bestRank = rank;
            }
        }
        return best;
    }

    int best() {
        needDraft();
        if (best(draft) < 0) {
            throw new NoSuchElementException();
        }
        return best(draft);
    }

    private boolean isEnd(List<Token> text, int index) {
        Token token = text.get(index);
        Token before = index == 0 ? new Token('-', 0) : text.get(index - 1);
        Token behind = index + 1 == text.size() ? new Token('-', 0) : text.get(index + 1);
        if (token.kind() != 'm') {
            return false;
        }
        return switch (token.value()) {
            case '!', '?' -> true;
            case '.' -> !(before.kind() == 'w' && abbreviations.contains(before.value()))
                    && !(before.kind() == 'n' && behind.kind() == 'n');
            default -> false;
        };
    }

    int open() {
        needDraft();
        List<Token> text = taken();
        segments = new ArrayList<>();
        int index = 0;
        while (index < text.size()) {
            Segment segment = new Segment();
            int start = index;
            while (index < text.size() && !isEnd(text, index)) {
                index++;
            }
            index++;
            while (index < text.size() && text.get(index).kind() == 't') {
                index++;
            }
            segment.text = new ArrayList<>(text.subList(start, Math.min(index, text.size())));
            segments.add(segment);
        }
        return segments.size();
    }

    int segments() {
        return segments.size();
    }

    private static List<Token> numbers(List<Token> text) {
        List<Token> numbers = new ArrayList<>();
        for (Token token : text) {
            if (token.kind() == 'n') {
                numbers.add(token);
            }
        }
        return numbers;
    }

    private static List<Token> adapted(Unit unit, List<Token> text) {
        List<Token> target = new ArrayList<>(unit.target);
        List<Token> from = numbers(unit.source);
        List<Token> to = numbers(text);
        if (from.size() == to.size()) {
            target.replaceAll(token -> from.contains(token) ? to.get(from.indexOf(token)) : token);
        }
        return target;
    }

    int fill(int threshold) {
        if (threshold < 1 || threshold > 100) {
            throw new IllegalArgumentException();
        }
        int filled = 0;
        for (int i = 0; i < segments.size(); i++) {
            if (segments.get(i).state == 'e') {
                filled += fillSegment(i, threshold) ? 1 : 0;
            }
        }
        return filled;
    }

    private boolean fillSegment(int index, int threshold) {
        Segment segment = segments.get(index);
        for (Segment other : segments.subList(0, index)) {
            if (other.state != 'e' && other.text.equals(segment.text)) {
                segment.state = 'r';
                segment.target = other.target;
                return true;
            }
        }
        int best = best(segment.text);
        if (best < 0 || score(segment.text, units.get(best)) < threshold) {
            return false;
        }
        segment.unit = best;
        segment.score = score(segment.text, units.get(best));
        segment.state = segment.score == 100 ? 'x' : 'f';
        segment.target = adapted(units.get(best), segment.text);
        return true;
    }

    private Segment segment(int number) {
        if (number < 0 || number >= segments.size()) {
            throw new IndexOutOfBoundsException();
        }
        return segments.get(number);
    }

    int answer(int number) {
        Segment segment = segment(number);
        needDraft();
        if (units.size() == 40) {
            throw new IllegalStateException();
        }
        segment.target = taken();
        segment.state = 'a';
        addUnit(segment.text, segment.target);
        int others = 0;
        for (Segment other : segments) {
            if (other.state != 'a' && other.text.equals(segment.text)) {
                other.state = 'r';
                other.target = segment.target;
                others++;
            }
        }
        return others;
    }

    char stateOf(int number) {
        return segment(number).state;
    }

    private Segment filled(int number) {
        if ("xf".indexOf(segment(number).state) < 0) {
            throw new NoSuchElementException();
        }
        return segment(number);
    }

    int unitOf(int number) {
        return filled(number).unit;
    }

    int scoreOf(int number) {
        return filled(number).score;
    }

    int segmentLength(int number) {
        return segment(number).text.size();
    }

    int segmentToken(int number, int index) {
        List<Token> text = segment(number).text;
        if (index < 0 || index >= text.size()) {
            throw new IndexOutOfBoundsException();
        }
        return text.get(index).value();
    }

    private List<Token> target(int number) {
        if (segment(number).state == 'e') {
            throw new NoSuchElementException();
        }
        return segment(number).target;
    }

    int targetLength(int number) {
        return target(number).size();
    }

    private Token targetAt(int number, int index) {
        List<Token> target = target(number);
        if (index < 0 || index >= target.size()) {
            throw new NoSuchElementException();
        }
        return target.get(index);
    }

    int targetToken(int number, int index) {
        return targetAt(number, index).value();
    }

    char targetKind(int number, int index) {
        return targetAt(number, index).kind();
    }

    int repeats() {
        Set<List<Token>> seen = new HashSet<>();
        int repeats = 0;
        for (Segment segment : segments) {
            repeats += seen.add(segment.text) ? 0 : 1;
        }
        return repeats;
    }

    long openWeight() {
        long sum = 0;
        for (Segment segment : segments) {
            sum += segment.state == 'e' ? weight(segment.text) : 0;
        }
        return sum;
    }

    float filledShare() {
        if (segments.isEmpty()) {
            throw new ArithmeticException();
        }
        int full = 0;
        for (Segment segment : segments) {
            full += segment.state == 'e' ? 0 : 1;
        }
        return (float) full / (float) segments.size();
    }

    double meanLikeness() {
        needDraft();
        int live = 0;
        int sum = 0;
        for (Unit unit : units) {
            live += unit.live ? 1 : 0;
            sum += unit.live ? likeness(draft, unit) : 0;
        }
        if (live == 0) {
            throw new ArithmeticException();
        }
        return (double) sum / (double) live;
    }
}
