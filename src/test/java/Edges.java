import java.io.IOException;
import java.util.ArrayList;
import java.util.List;
import java.util.Map;
import java.util.TreeMap;
import java.util.function.Supplier;
import java.util.function.ToLongFunction;

/**
 * Answers at the boundaries, each held to a sentence of the document: at(promise, sentence) says which one the next
 * answers belong to. At the end every sentence must stand in DOC.md, in its promise, and none there may be left out.
 */
final class Edges {
    static final int TERMS = 0;
    /** "What it is", ahead of Terms; it has one sentence that can be tested. */
    static final int USE = -1;
    static final int NONE = -1;
    static final int BAD = -2;
    static final int OTHER = -3;
    static final int NOTHING = -4;
    static final int STUCK = -5;
    static final int FULL = -6;
    static final int NO = -1000000000;
    /** Far outside of any range, and where an index or a sum would wrap around. */
    static final int LOW = Integer.MIN_VALUE;
    static final int HIGH = Integer.MAX_VALUE;

    private final Check check = new Check();
    private final Map<Integer, List<String>> sentences = new TreeMap<>();
    private int promise = TERMS;
    private String sentence = "";
    private boolean isHeld = true;

    void at(int promise, String sentence) {
        closeSentence();
        this.promise = promise;
        this.sentence = sentence;
        isHeld = false;
        sentences.computeIfAbsent(promise, p -> new ArrayList<>()).add(sentence);
    }

    private void closeSentence() {
        if (!isHeld) check.due(where() + " has an answer that is held to it", 0, 1);
    }

    private static String name(int promise) {
        return promise == USE ? "What it is" : promise == TERMS ? "Terms" : "promise " + promise;
    }

    private String where() {
        return name(promise) + ", \"" + sentence + "\":";
    }

    void due(String call, long got, long want) {
        isHeld = true;
        check.due(where() + " " + call, got, want);
    }

    /** A refused call on a new object: the number is answered and counted, and nothing else differs from a like object. */
    void refused(Supplier<OverTheBoards> maker, String call, ToLongFunction<OverTheBoards> run, long want) {
        OverTheBoards asked = maker.get();
        OverTheBoards other = maker.get();
        due(call, run.applyAsLong(asked), want);
        long number = want < NO ? want - NO : want <= -20 ? BAD : want;
        for (int r = BAD; r >= FULL; r--) {
            due("refusals of " + r + " behind " + call, asked.status(10 - r), other.status(10 - r) + (r == number ? 1 : 0));
        }
        same("behind the refused " + call, asked, other);
    }

    void same(String when, OverTheBoards one, OverTheBoards other) {
        List<Long> first = state(one);
        List<Long> second = state(other);
        due("size of the state " + when, first.size(), second.size());
        for (int i = 0; i < Math.min(first.size(), second.size()); i++) due("state " + i + " " + when, first.get(i), second.get(i));
    }

    /** All that can be asked for but REFUSALS, in fewer than 512 calls as long as three SHELVES at most hold ROWS. */
    private static List<Long> state(OverTheBoards x) {
        List<Long> all = new ArrayList<>();
        for (int i = 0; i < 20; i++) if (i < 12 || i > 16) all.add((long) x.status(i));
        for (int p = 0; p < all.get(0); p++) for (int w = 0; w < 8; w++) all.add((long) x.playerOf(p, w));
        for (int l = 0; l < 4; l++) all.add((long) x.lineOf(l, 0));
        for (int s = 0; s < 8; s++) {
            long holds = x.holds(s);
            all.add(holds);
            for (int i = 0; i < 40 && holds >= 0 && holds <= 4; i++) all.add(x.element(s, i));
        }
        return all;
    }

    /** Each of these, put where the call has it, is refused with the same number. */
    void refusedEach(Supplier<OverTheBoards> maker, String call, OneNumber run, long want, int... values) {
        for (int v : values) refused(maker, call.replace("#", "" + v), x -> run.of(x, v), want);
    }

    interface OneNumber {
        long of(OverTheBoards x, int v);
    }

    void end(String test) throws IOException {
        closeSentence();
        Document document = Document.find(test);
        if (document != null) {
            for (String s : sentences.get(USE)) {
                check.due(name(USE) + " has the words \"" + s + "\"", document.text().contains(s) ? 1 : 0, 1);
            }
            for (int p = TERMS; p <= Document.PROMISES; p++) holdToDocument(p, p == TERMS ? document.terms() : document.promise(p));
        }
        check.end(test);
    }

    private void holdToDocument(int p, String text) {
        boolean[] told = new boolean[text.length()];
        for (String s : sentences.getOrDefault(p, List.of())) {
            check.due(name(p) + " has the words \"" + s + "\"", text.contains(s) ? 1 : 0, 1);
            for (int at = text.indexOf(s); at >= 0; at = text.indexOf(s, at + 1)) {
                for (int i = 0; i < s.length(); i++) told[at + i] = true;
            }
        }
        StringBuilder left = new StringBuilder();
        for (int i = 0; i < text.length(); i++) left.append(told[i] ? '_' : text.charAt(i));
        String words = left.toString().replaceAll("[_\\s;:,.()]+", " ").trim();
        check.due(name(p) + ": words without a test: " + words, words.length(), 0);
    }
}
