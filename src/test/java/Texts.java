/** Writes texts as rows like "w12 n5 t1 ." and puts them into a memory. */
final class Texts {
    private Texts() {
    }

    static void put(Fuzzyseg memory, String row) {
        for (String token : row.split(" ")) {
            putToken(memory, token);
        }
    }

    private static void putToken(Fuzzyseg memory, String token) {
        switch (token.charAt(0)) {
            case 'w' -> memory.word(valueOf(token));
            case 'n' -> memory.number(valueOf(token));
            case 't' -> memory.tag(valueOf(token));
            default -> memory.mark(token.charAt(0));
        }
    }

    private static int valueOf(String token) {
        return Integer.parseInt(token.substring(1));
    }

    /** Puts the text in place of the draft. */
    static void draft(Fuzzyseg memory, String row) {
        memory.clear();
        put(memory, row);
    }

    static int unit(Fuzzyseg memory, String source, String target) {
        draft(memory, source);
        memory.takeSource();
        put(memory, target);
        return memory.addUnit();
    }

    static int document(Fuzzyseg memory, String row) {
        draft(memory, row);
        return memory.open();
    }

    static int answer(Fuzzyseg memory, int segment, String target) {
        draft(memory, target);
        return memory.answer(segment);
    }

    static String repeat(String token, int times) {
        return (token + " ").repeat(times).trim();
    }

    /** The segment as values, with the codes of marks. */
    static String segment(Fuzzyseg memory, int segment) {
        StringBuilder row = new StringBuilder();
        int length = memory.segmentLength(segment);
        for (int i = 0; i < length; i++) {
            row.append(i == 0 ? "" : " ").append(memory.segmentToken(segment, i));
        }
        return row.toString();
    }

    /** The target of a segment, written as in put. */
    static String target(Fuzzyseg memory, int segment) {
        StringBuilder row = new StringBuilder();
        int length = memory.targetLength(segment);
        for (int i = 0; i < length; i++) {
            char kind = memory.targetKind(segment, i);
            int value = memory.targetToken(segment, i);
            row.append(i == 0 ? "" : " ");
            if (kind == 'm') {
                row.append((char) value);
            } else {
                row.append(kind).append(value);
            }
        }
        return row.toString();
    }

    static String states(Fuzzyseg memory) {
        StringBuilder row = new StringBuilder();
        int segments = memory.segments();
        for (int i = 0; i < segments; i++) {
            row.append(memory.stateOf(i));
        }
        return row.toString();
    }
}
