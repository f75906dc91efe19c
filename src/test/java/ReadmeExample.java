public final class ReadmeExample {
    public static void main(String[] args) {
        LeafWorlds x = new LeafWorlds();

        // A world: one act with two entries, and the law that it may be bracketed in any way.
        type(x, "mod 7;act m 2;law m(m(x,x),x)-m(x,m(x,x));");
        System.out.println("lines: " + x.world());
        System.out.println("trees of 4 leaves: " + x.trees(4) + ", normal ones: " + x.size(4));
        System.out.println("closed to 7: " + (x.closed(7) == LeafWorlds.NONE));

        // A sum of its trees, brought to normal trees, and back.
        type(x, "m(m(x,x),m(x,x)) + 2 m(m(x,m(x,x)),x)");
        x.sum();
        System.out.println("sum: " + told(x));
        x.reduce();
        System.out.println("normal: " + told(x));
        x.undo();
        System.out.println("back: " + told(x));

        // The act done in a space of two ways: its table has a number for each row of ways and each outcome.
        x.space(2);
        type(x, "\1\0" + "\0\1" + "\0\1" + "\1\0");
        System.out.println("table taken: " + x.table(0) + ", law holds: " + x.holds(0));

        // What is wrong in a text is told by its place and its kind.
        type(x, "m(x,x) + m(x,");
        System.out.println("fault at " + (-1 - x.sum()) + " of kind " + x.fault());
    }

    /** Puts characters 0 to 255 on the empty tape, four in a number, twenty in a call. */
    private static void type(LeafWorlds x, String text) {
        for (int from = 0; from < text.length(); from += 20) {
            int[] n = new int[5];
            for (int i = 0; i < 20; i++) {
                n[i / 4] = n[i / 4] << 8 | (from + i < text.length() ? text.charAt(from + i) : 0);
            }
            x.feed(n[0], n[1], n[2], n[3], n[4]);
        }
        x.end(text.length());
    }

    /** The sum at hand as a text. */
    private static String told(LeafWorlds x) {
        StringBuilder text = new StringBuilder();
        for (int k = 0; k < x.count(3); k++) {
            text.append(k == 0 ? "" : " + ").append(x.term(k)).append(' ');
            for (int i = 0; x.termAt(k, i) != LeafWorlds.NONE; i++) {
                text.append((char) x.termAt(k, i));
            }
        }
        return text.toString();
    }
}
