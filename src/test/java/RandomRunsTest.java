import java.util.ArrayList;
import java.util.List;
import java.util.NoSuchElementException;
import java.util.Random;

/** Random runs of calls, with right and spoilt texts: every answer is the one of NaiveWorlds. */
public final class RandomRunsTest {
    private static final long THROWN = Long.MIN_VALUE;
    private static final String[] NAMES = {"m", "n", "t", "ab", "sixlet", "y", "xx"};
    private static final int[] PRIMES = {2, 3, 5, 7, 11, 13, 97};

    private final Random random;
    /** In a wide run there are more laws, leaves and terms, up to what the document allows and past it. */
    private final boolean wide;
    private final LeafWorlds right = new LeafWorlds();
    private final NaiveWorlds due = new NaiveWorlds();
    private final List<String> calls = new ArrayList<>();
    private int wrong;
    private String[] names = {};
    private int[] entries = {};
    private String[] keptNames = {};
    private int[] keptEntries = {};
    private int lastPrime = 97;

    private RandomRunsTest(long seed) {
        random = new Random(seed);
        wide = seed % 4 == 3;
    }

    public static void main(String[] args) {
        int runs = args.length > 0 ? Integer.parseInt(args[0]) : 250;
        int from = args.length > 1 ? Integer.parseInt(args[1]) : 0;
        int wrong = 0;
        for (int seed = from; seed < from + runs && wrong < 5; seed++) {
            RandomRunsTest run = new RandomRunsTest(seed);
            run.go(60);
            if (run.wrong > 0) {
                System.out.println("seed " + seed + ":");
                for (String call : run.calls) {
                    System.out.println("  " + call);
                }
                wrong++;
            }
        }
        System.out.println(wrong == 0 ? "random runs agree" : wrong + " random runs do not agree");
        if (wrong > 0) {
            System.exit(1);
        }
    }

    private void go(int steps) {
        for (int i = 0; i < steps && wrong == 0; i++) {
            step(random.nextInt(40));
            for (int what = 0; what < 6 && wrong == 0; what++) {
                same("count(" + what + ")", right.count(what), due.count(what));
            }
            sameSum();
        }
    }

    private void same(String call, long got, long want) {
        if (got != want) {
            wrong++;
        }
        if (got != want || !call.startsWith("count") && !call.startsWith("term")) {
            calls.add(call + " answered " + got + (got == want ? "" : ", due is " + want));
        }
    }

    private static long term(LeafWorlds x, int k) {
        try {
            return x.term(k);
        } catch (NoSuchElementException e) {
            return THROWN;
        }
    }

    private static long term(NaiveWorlds x, int k) {
        try {
            return x.term(k);
        } catch (NoSuchElementException e) {
            return THROWN;
        }
    }

    private void sameSum() {
        same("leaves()", right.leaves(), due.leaves());
        int terms = due.count(3);
        for (int k = -1; k <= terms && wrong == 0; k++) {
            same("term(" + k + ")", term(right, k), term(due, k));
            if (k > 3 && k < terms - 2) {
                continue;
            }
            for (int i = -1; i < 62 && wrong == 0; i++) {
                same("termAt(" + k + ", " + i + ")", right.termAt(k, i), due.termAt(k, i));
            }
        }
    }

    private void feed(byte[] text) {
        int before = due.count(5);
        for (int i = 0; i < text.length; i += 20) {
            int[] n = new int[5];
            for (int j = 0; j < 20; j++) {
                n[j / 4] = n[j / 4] << 8 | (i + j < text.length ? text[i + j] & 255 : 0);
            }
            same("feed", right.feed(n[0], n[1], n[2], n[3], n[4]), due.feed(n[0], n[1], n[2], n[3], n[4]));
        }
        int stop = before + text.length;
        same("end(" + stop + ")", right.end(stop) ? 1 : 0, due.end(stop) ? 1 : 0);
    }

    private void feed(String text) {
        calls.add("text: " + text.replace("\n", "\\n"));
        feed(text.getBytes(java.nio.charset.StandardCharsets.ISO_8859_1));
    }

    private String blank() {
        int r = random.nextInt(12);
        return r == 0 ? " " : r == 1 ? "\n" : r == 2 ? "  " : "";
    }

    /** A tree of n leaves of these acts, or of another number, if there is none. */
    private String tree(int n, String[] acts, int[] entriesOf) {
        if (n <= 1 || acts.length == 0) {
            return "x" + blank();
        }
        int a = random.nextInt(acts.length);
        for (int tries = 0; tries < 10 && entriesOf[a] > n; tries++) {
            a = random.nextInt(acts.length);
        }
        int m = entriesOf[a];
        int[] parts = new int[m];
        for (int i = 0; i < m; i++) {
            parts[i] = 1;
        }
        for (int left = n - m; left > 0; left--) {
            parts[random.nextInt(m)]++;
        }
        StringBuilder s = new StringBuilder(acts[a]).append(blank()).append('(');
        for (int i = 0; i < m; i++) {
            s.append(i == 0 ? "" : ",").append(blank()).append(tree(parts[i], acts, entriesOf));
        }
        return s.append(')').append(blank()).toString();
    }

    private String sumText(int leaves, int terms, String[] acts, int[] entriesOf) {
        StringBuilder s = new StringBuilder(random.nextInt(5) == 0 ? "-" : "").append(blank());
        for (int i = 0; i < terms; i++) {
            s.append(i == 0 ? "" : random.nextBoolean() ? "+" : "-").append(blank());
            if (random.nextInt(3) == 0) {
                s.append(random.nextInt(100)).append(' ');
            }
            s.append(tree(leaves, acts, entriesOf));
        }
        return s.toString();
    }

    /** With blanks that bring the text near the most bytes it may have. */
    private String stretched(String text, int most) {
        int more = most - text.length() + random.nextInt(30) - 15;
        if (random.nextInt(12) != 0 || more < 1 || text.length() + more > 940) {
            return text;
        }
        int at = random.nextInt(text.length() + 1);
        return text.substring(0, at) + " ".repeat(more) + text.substring(at);
    }

    private String spoilt(String text) {
        if (random.nextInt(6) != 0) {
            return text;
        }
        if (random.nextInt(4) == 0) {
            return withOtherWord(text);
        }
        StringBuilder s = new StringBuilder(text);
        String signs = "xmn(),;+-= 2390AQZ~\n\u00e9";
        for (int i = 0, n = 1 + random.nextInt(2); i < n && s.length() > 0; i++) {
            int at = random.nextInt(s.length());
            char sign = signs.charAt(random.nextInt(signs.length()));
            switch (random.nextInt(5)) {
                case 0 -> s.deleteCharAt(at);
                case 1 -> s.insert(at, sign);
                case 2 -> s.setCharAt(at, sign);
                case 3 -> s.setLength(at);
                default -> s.insert(at, List.of("mod ", "act ", "law ", "x", "m(x,x)", "law m(x,x);", "act q 2;", "mod 3;").get(random.nextInt(8)));
            }
        }
        return s.toString();
    }

    /** One word of the text becomes one that the document tells itself, or one that may be a name. */
    private String withOtherWord(String text) {
        List<int[]> words = new ArrayList<>();
        java.util.regex.Matcher found = java.util.regex.Pattern.compile("[a-z]+").matcher(text);
        while (found.find()) {
            words.add(new int[] {found.start(), found.end()});
        }
        if (words.isEmpty()) {
            return text;
        }
        int[] word = words.get(random.nextInt(words.size()));
        String other = List.of("mod", "act", "law", "x", "m", "modx", "la", "sevenle").get(random.nextInt(8));
        return text.substring(0, word[0]) + other + text.substring(word[1]);
    }

    private void newWorld() {
        int acts = random.nextInt(10) == 0 ? 0 : 1 + (random.nextInt(3) == 0 ? 1 + random.nextInt(2) : 0);
        boolean binary = random.nextBoolean();
        names = new String[acts];
        entries = new int[acts];
        int shift = random.nextInt(NAMES.length);
        StringBuilder s = new StringBuilder();
        for (int a = 0; a < acts; a++) {
            names[a] = NAMES[(a + shift) % NAMES.length];
            entries[a] = binary || random.nextInt(3) == 0 ? 2 : 2 + random.nextInt(3);
            s.append("act ").append(names[a]).append(' ').append(entries[a]).append(';').append(blank());
        }
        if (random.nextInt(4) != 0) {
            lastPrime = random.nextInt(3) == 0 ? PRIMES[random.nextInt(PRIMES.length)] : lastPrime;
            s.append("mod ").append(lastPrime).append(';');
        }
        int laws = wide && random.nextInt(3) == 0 ? random.nextInt(20) : random.nextInt(4);
        for (int l = 0; l < laws && acts > 0; l++) {
            int n = binary && random.nextInt(4) != 0 ? 3 : 2 + random.nextInt(wide ? 6 : 4);
            s.append("law ").append(sumText(n, 1 + random.nextInt(3), names, entries)).append(';');
        }
        feed(stretched(spoilt(s.toString()), 900));
        same("world()", right.world(), due.world());
        same("fault()", right.fault(), due.fault());
        names = new String[due.count(1)];
        entries = new int[due.count(1)];
        readNames(s.toString());
    }

    /** After a fault the world is an older one; its names are then unknown, and texts may be wrong. */
    private void readNames(String text) {
        String[] parts = text.split("act ");
        for (int a = 0; a < names.length; a++) {
            names[a] = a + 1 < parts.length ? parts[a + 1].split(" ")[0] : "m";
            entries[a] = due.act(a);
        }
    }

    private void step(int which) {
        int n = random.nextInt(9);
        int k = random.nextInt(5) == 0 ? random.nextInt(5) - 1 : 0;
        switch (which) {
            case 0, 1, 2 -> newWorld();
            case 3, 4, 5, 6 -> {
                int leaves = 1 + random.nextInt(wide ? 8 : 5);
                feed(stretched(spoilt(sumText(leaves, 1 + random.nextInt(wide ? 20 : 4), names, entries)), 400));
                same("sum()", right.sum(), due.sum());
                same("fault()", right.fault(), due.fault());
            }
            case 7, 8, 9 -> {
                int leaves = 1 + random.nextInt(wide ? 5 : 3);
                feed(stretched(spoilt(sumText(leaves, 1 + random.nextInt(wide ? 20 : 3), names, entries)), 400));
                int i = random.nextInt(wide ? 7 : 4) - (random.nextInt(9) == 0 ? 1 : 0);
                same("plug(" + i + ")", right.plug(i), due.plug(i));
                same("fault()", right.fault(), due.fault());
            }
            case 10 -> same("act(" + k + ")", right.act(k), due.act(k));
            case 11 -> {
                same("law(" + k + ", 0)", right.law(k, 0), due.law(k, 0));
                same("law(" + k + ", 1)", right.law(k, 1), due.law(k, 1));
                same("law(" + k + ", 2)", right.law(k, 2), due.law(k, 2));
            }
            case 12 -> same("take(" + k + ")", right.take(k), due.take(k));
            case 13 -> {
                for (int m = 0; m < 12; m++) {
                    same("trees(" + m + ")", right.trees(m), due.trees(m));
                }
            }
            case 14, 15, 16 -> same("reduce()", right.reduce(), due.reduce());
            case 17, 18 -> same("size(" + n + ")", right.size(n), due.size(n));
            case 19 -> normalTrees(n);
            case 20 -> same("bare(" + n + ")", right.bare(n), due.bare(n));
            case 21 -> same("closed(" + n + ")", right.closed(n), due.closed(n));
            case 22 -> {
                int by = random.nextInt(9) == 0 ? random.nextInt(2200) - 1100 : random.nextInt(20) - 10;
                same("times(" + by + ")", right.times(by), due.times(by));
            }
            case 23 -> {
                int by = random.nextInt(9) == 0 ? random.nextInt(2200) - 1100 : random.nextInt(20) - 10;
                same("add(" + k + ", " + by + ")", right.add(k, by), due.add(k, by));
            }
            case 24, 25 -> {
                for (int i = random.nextInt(3); i >= 0; i--) {
                    same("undo()", right.undo(), due.undo());
                }
            }
            case 26 -> same("dual()", right.dual(), due.dual());
            case 27 -> undone(n);
            case 28 -> same("koszul(" + n + ")", right.koszul(n), due.koszul(n));
            case 29, 30 -> layered(n);
            case 31, 32 -> mapText();
            case 33, 34 -> tablesAndDone();
            case 35 -> {
                int seed = random.nextInt();
                same("drawn(" + n + ", " + seed + ")", right.drawn(n, seed), due.drawn(n, seed));
            }
            case 36, 37 -> {
                int place = random.nextInt(3);
                same("image(" + place + ")", right.image(place) ? 1 : 0, due.image(place) ? 1 : 0);
                keptNames = names;
                keptEntries = entries;
            }
            case 38 -> {
                int place = random.nextInt(3);
                same("restore(" + place + ")", right.restore(place) ? 1 : 0, due.restore(place) ? 1 : 0);
            }
            default -> same("broken()", right.broken(), due.broken());
        }
    }

    private void normalTrees(int n) {
        int size = Math.max(0, due.size(n));
        for (int k = -1; k <= size; k++) {
            for (int i = -1; i < 12; i++) {
                same("normalAt(" + n + ", " + k + ", " + i + ")", right.normalAt(n, k, i), due.normalAt(n, k, i));
            }
            k += size > 20 ? 7 : 0;
        }
    }

    private void undone(int n) {
        long got;
        long want;
        try {
            got = right.undone(n);
        } catch (NoSuchElementException e) {
            got = THROWN;
        }
        try {
            want = due.undone(n);
        } catch (NoSuchElementException e) {
            want = THROWN;
        }
        same("undone(" + n + ")", got, want);
    }

    private void layered(int n) {
        int place = random.nextInt(3);
        same("layered(" + place + ", " + n + ")", right.layered(place, n), due.layered(place, n));
    }

    private void mapText() {
        StringBuilder s = new StringBuilder();
        for (int a = 0; a < names.length; a++) {
            s.append(names[a]).append(blank()).append("=").append(blank());
            s.append(sumText(entries[a], 1 + random.nextInt(3), keptNames, keptEntries)).append(";").append(blank());
        }
        feed(stretched(spoilt(s.toString()), 400));
        int place = random.nextInt(2);
        same("map(" + place + ")", right.map(place), due.map(place));
        same("fault()", right.fault(), due.fault());
        same("broken()", right.broken(), due.broken());
    }

    private void tablesAndDone() {
        int d = random.nextInt(4);
        same("space(" + d + ")", right.space(d) ? 1 : 0, due.space(d) ? 1 : 0);
        int ways = due.count(4);
        for (int a = 0; a < entries.length; a++) {
            int cells = (int) Math.round(Math.pow(ways, due.act(a) + 1)) + (random.nextInt(9) == 0 ? 1 : 0);
            byte[] bytes = new byte[cells];
            int kind = random.nextInt(4);
            for (int i = 0; i < cells; i++) {
                bytes[i] = (byte) (kind == 0 ? random.nextInt(256) : random.nextInt(9) == 0 ? 1 : 0);
            }
            feed(bytes);
            same("table(" + a + ")", right.table(a) ? 1 : 0, due.table(a) ? 1 : 0);
        }
        for (int l = -1; l <= due.count(2); l++) {
            same("holds(" + l + ")", right.holds(l), due.holds(l));
        }
        for (int i = -1; i <= ways; i++) {
            byte[] in = new byte[due.leaves() + (random.nextInt(9) == 0 ? 1 : 0)];
            for (int j = 0; j < in.length; j++) {
                in[j] = (byte) (random.nextInt(30) == 0 ? ways : random.nextInt(ways));
            }
            feed(in);
            same("done(" + i + ")", right.done(i), due.done(i));
        }
    }
}
