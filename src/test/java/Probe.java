import java.util.NoSuchElementException;

/**
 * A LeafWorlds under test, with texts put on its tape. Its calls are counted, for the document
 * promises nothing of an object behind its 512th call.
 */
final class Probe {
    private static final int MOST_CALLS = 512;
    /** A letter goes on in words and numbers, and is no way of a space. */
    private static final int CUT_OFF = 'z';

    private final LeafWorlds worlds = new LeafWorlds();
    private int calls;

    /** A new object with a world told; a fault in it is a fault of the test. */
    static Probe in(String text) {
        Probe x = new Probe();
        if (x.world(text) < 0) {
            throw new IllegalStateException("the test's own world has a fault: " + text);
        }
        return x;
    }

    private LeafWorlds use() {
        calls++;
        if (calls > MOST_CALLS) {
            throw new IllegalStateException("the test makes more than 512 calls of one object");
        }
        return worlds;
    }

    int callsLeft() {
        return MOST_CALLS - calls;
    }

    /** Puts bytes (characters 0 to 255) behind the tape; what is cut off behind them would change any text. */
    void type(String text) {
        int before = count(5);
        for (int i = 0; i < text.length(); i += 20) {
            int[] n = new int[5];
            for (int j = 0; j < 20; j++) {
                n[j / 4] = n[j / 4] << 8 | (i + j < text.length() ? text.charAt(i + j) & 255 : CUT_OFF);
            }
            if (feed(n[0], n[1], n[2], n[3], n[4]) < 0) {
                throw new IllegalStateException("the test's text is too long");
            }
        }
        end(before + text.length());
    }

    int world(String text) {
        type(text);
        return world();
    }

    int sum(String text) {
        type(text);
        return sum();
    }

    int plug(int leaf, String text) {
        type(text);
        return plug(leaf);
    }

    int map(int place, String text) {
        type(text);
        return map(place);
    }

    boolean table(int act, String bytes) {
        type(bytes);
        return table(act);
    }

    int done(int way, String ways) {
        type(ways);
        return done(way);
    }

    /** The sum at hand, as "number tree + number tree". */
    String show() {
        StringBuilder s = new StringBuilder();
        int terms = count(3);
        for (int k = 0; k < terms; k++) {
            s.append(k == 0 ? "" : " + ").append(term(k)).append(' ').append(tree(k));
        }
        return s.toString();
    }

    String tree(int k) {
        StringBuilder s = new StringBuilder();
        for (int b = termAt(k, 0); b >= 0; b = termAt(k, s.length())) {
            s.append((char) b);
        }
        return s.toString();
    }

    /** The k-th normal tree of n leaves as a text. */
    String normal(int n, int k) {
        StringBuilder s = new StringBuilder();
        for (int b = normalAt(n, k, 0); b >= 0; b = normalAt(n, k, s.length())) {
            s.append((char) b);
        }
        return s.toString();
    }

    /** A law as a text; the sum at hand stays. */
    String law(int l) {
        if (take(l) < 0) {
            return "none";
        }
        String text = show();
        undo();
        return text;
    }

    boolean termThrows(int k) {
        try {
            term(k);
            return false;
        } catch (NoSuchElementException e) {
            return true;
        }
    }

    boolean undoneThrows(int n) {
        try {
            undone(n);
            return false;
        } catch (NoSuchElementException e) {
            return true;
        }
    }

    /** All that can be asked for without changing anything, but for the tape and what is kept. */
    String state() {
        StringBuilder s = new StringBuilder();
        for (int what = 0; what < 5; what++) {
            s.append(count(what)).append(' ');
        }
        s.append(leaves()).append(" [").append(show()).append("] broken ").append(broken()).append(':');
        for (int a = 0; act(a) >= 0; a++) {
            s.append(" act ").append(act(a));
        }
        for (int l = 0; law(l, 0) >= 0; l++) {
            s.append(" law ").append(law(l, 0)).append(' ').append(law(l, 1)).append(' ').append(holds(l));
        }
        return s.toString();
    }

    /** How many sums are kept for undo; none is kept behind it. */
    int undos() {
        int kept = 0;
        while (undo() >= 0) {
            kept++;
        }
        return kept;
    }

    int feed(int a, int b, int c, int d, int e) {
        return use().feed(a, b, c, d, e);
    }

    boolean end(int n) {
        return use().end(n);
    }

    int world() {
        return use().world();
    }

    int fault() {
        return use().fault();
    }

    int act(int a) {
        return use().act(a);
    }

    int law(int l, int what) {
        return use().law(l, what);
    }

    int take(int l) {
        return use().take(l);
    }

    long trees(int n) {
        return use().trees(n);
    }

    int sum() {
        return use().sum();
    }

    int leaves() {
        return use().leaves();
    }

    int term(int k) {
        return use().term(k);
    }

    int termAt(int k, int i) {
        return use().termAt(k, i);
    }

    int reduce() {
        return use().reduce();
    }

    int size(int n) {
        return use().size(n);
    }

    int normalAt(int n, int k, int i) {
        return use().normalAt(n, k, i);
    }

    int bare(int n) {
        return use().bare(n);
    }

    int closed(int n) {
        return use().closed(n);
    }

    int plug(int i) {
        return use().plug(i);
    }

    int times(int by) {
        return use().times(by);
    }

    int add(int l, int by) {
        return use().add(l, by);
    }

    int undo() {
        return use().undo();
    }

    int dual() {
        return use().dual();
    }

    long undone(int n) {
        return use().undone(n);
    }

    int koszul(int n) {
        return use().koszul(n);
    }

    long layered(int k, int n) {
        return use().layered(k, n);
    }

    int map(int k) {
        return use().map(k);
    }

    int broken() {
        return use().broken();
    }

    boolean space(int d) {
        return use().space(d);
    }

    boolean table(int a) {
        return use().table(a);
    }

    int holds(int l) {
        return use().holds(l);
    }

    int done(int i) {
        return use().done(i);
    }

    int drawn(int n, int seed) {
        return use().drawn(n, seed);
    }

    boolean image(int k) {
        return use().image(k);
    }

    boolean restore(int k) {
        return use().restore(k);
    }

    int count(int what) {
        return use().count(what);
    }
}
