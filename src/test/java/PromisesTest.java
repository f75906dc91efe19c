import java.util.NoSuchElementException;

/** Each promise of the document with answers found by hand: ordinary inputs, edges, wrong inputs. */
public final class PromisesTest {
    private static final String ASSOCIATIVE = "mod 7;act m 2;law m(m(x,x),x) - m(x,m(x,x));";
    private static int wrong = 0;
    private static int promise = 0;

    private static void due(String what, long got, long want) {
        if (got != want) {
            wrong++;
            System.out.println("promise " + promise + ": " + what + " answered " + got + ", due is " + want);
        }
    }

    private static void due(String what, boolean got, boolean want) {
        due(what, got ? 1 : 0, want ? 1 : 0);
    }

    private static void due(String what, String got, String want) {
        if (!got.equals(want)) {
            wrong++;
            System.out.println("promise " + promise + ": " + what + " answered " + got + ", due is " + want);
        }
    }

    private static void feed(LeafWorlds x, String text) {
        int before = x.count(5);
        for (int i = 0; i < text.length(); i += 20) {
            int[] n = new int[5];
            for (int j = 0; j < 20; j++) {
                n[j / 4] = n[j / 4] << 8 | (i + j < text.length() ? text.charAt(i + j) & 255 : 0);
            }
            x.feed(n[0], n[1], n[2], n[3], n[4]);
        }
        x.end(before + text.length());
    }

    private static LeafWorlds in(String world) {
        LeafWorlds x = new LeafWorlds();
        feed(x, world);
        if (x.world() < 0) {
            wrong++;
            System.out.println("no world: " + world);
        }
        return x;
    }

    private static int world(LeafWorlds x, String text) {
        feed(x, text);
        return x.world();
    }

    private static int sum(LeafWorlds x, String text) {
        feed(x, text);
        return x.sum();
    }

    private static int plug(LeafWorlds x, int leaf, String text) {
        feed(x, text);
        return x.plug(leaf);
    }

    private static int map(LeafWorlds x, int place, String text) {
        feed(x, text);
        return x.map(place);
    }

    private static boolean table(LeafWorlds x, int a, String bytes) {
        feed(x, bytes);
        return x.table(a);
    }

    private static int done(LeafWorlds x, int i, String ways) {
        feed(x, ways);
        return x.done(i);
    }

    /** A text that must have a fault of this kind at this place, and must change nothing. */
    private static void worldFault(String text, int kind, int place) {
        LeafWorlds x = in(ASSOCIATIVE);
        sum(x, "3 m(x,x)");
        due("world " + text, world(x, text), -1 - place);
        due("fault of world " + text, x.fault(), kind);
        due("world stays", x.count(0) * 100 + x.count(1) * 10 + x.count(2), 711);
        due("sum stays", show(x), "3 m(x,x)");
        due("tape is empty", x.count(5), 0);
    }

    private static void sumFault(LeafWorlds x, String text, int kind, int place) {
        String before = show(x);
        due("sum " + text, sum(x, text), -1 - place);
        due("fault of sum " + text, x.fault(), kind);
        due("sum stays", show(x), before);
        due("tape is empty", x.count(5), 0);
    }

    /** The sum at hand as a text, by term and termAt. */
    private static String show(LeafWorlds x) {
        StringBuilder s = new StringBuilder();
        for (int k = 0; k < x.count(3); k++) {
            s.append(k == 0 ? "" : " + ").append(x.term(k)).append(' ');
            for (int i = 0; x.termAt(k, i) >= 0; i++) {
                s.append((char) x.termAt(k, i));
            }
        }
        return s.toString();
    }

    private static String normal(LeafWorlds x, int n, int k) {
        StringBuilder s = new StringBuilder();
        for (int i = 0; x.normalAt(n, k, i) >= 0; i++) {
            s.append((char) x.normalAt(n, k, i));
        }
        return s.toString();
    }

    private static boolean termThrows(LeafWorlds x, int k) {
        try {
            x.term(k);
            return false;
        } catch (NoSuchElementException e) {
            return true;
        }
    }

    private static boolean undoneThrows(LeafWorlds x, int n) {
        try {
            x.undone(n);
            return false;
        } catch (NoSuchElementException e) {
            return true;
        }
    }

    private static String again(String piece, int times) {
        return piece.repeat(times);
    }

    public static void main(String[] args) {
        newObject();
        tape();
        worlds();
        worldFaults();
        reservedWords();
        limits();
        actsAndLaws();
        counts();
        sums();
        order();
        normals();
        bares();
        plugs();
        factors();
        undos();
        duals();
        seriesAndKoszul();
        layers();
        maps();
        mapFaults();
        tables();
        draws();
        images();
        System.out.println(wrong == 0 ? "all promises as due" : wrong + " answers are not as due");
        if (wrong != 0) {
            System.exit(1);
        }
    }

    private static void newObject() {
        promise = 1;
        LeafWorlds x = new LeafWorlds();
        due("P", x.count(0), 97);
        due("acts", x.count(1), 0);
        due("laws", x.count(2), 0);
        due("terms", x.count(3), 0);
        due("ways", x.count(4), 1);
        due("tape", x.count(5), 0);
        due("leaves", x.leaves(), 1);
        due("fault", x.fault(), 0);
        due("broken", x.broken(), -1);
        due("undo", x.undo(), -1);
        due("NONE", LeafWorlds.NONE, -1);
        due("restore", x.restore(0), false);
        due("size(1)", x.size(1), 1);
        due("size(7)", x.size(7), 0);
        due("trees(1)", x.trees(1), 1);
        due("trees(2)", x.trees(2), 0);
        due("sum x", sum(x, "x"), 1);
        due("reduce", x.reduce(), 1);
    }

    private static void tape() {
        promise = 2;
        LeafWorlds x = new LeafWorlds();
        for (int i = 1; i <= 47; i++) {
            due("feed", x.feed(0, 0, 0, 0, 0), 20 * i);
        }
        due("full", x.feed(0, 0, 0, 0, 0), -1);
        due("stays", x.count(5), 940);
        due("cut", x.end(921), true);
        due("still full", x.feed(0, 0, 0, 0, 0), -1);
        due("cut", x.end(920), true);
        due("feeds again", x.feed(0, 0, 0, 0, 0), 940);
        x.end(0);
        // "act " "m 2;" : the highest byte of each number comes first.
        x.feed(0x61637420, 0x6d20323b, -1, -1, -1);
        x.end(8);
        due("highest first", x.world(), 1);
        due("act", x.act(0), 2);
        promise = 3;
        x = new LeafWorlds();
        x.feed(1, 2, 3, 4, 5);
        due("end(21)", x.end(21), false);
        due("end(-1)", x.end(-1), false);
        due("end(min)", x.end(Integer.MIN_VALUE), false);
        due("stays", x.count(5), 20);
        due("end(20)", x.end(20), true);
        due("end(7)", x.end(7), true);
        due("has", x.count(5), 7);
        due("end(8)", x.end(8), false);
        due("feed goes on", x.feed(0, 0, 0, 0, 0), 27);
        due("end(0)", x.end(0), true);
        due("empty", x.count(5), 0);
    }

    private static void worlds() {
        promise = 4;
        LeafWorlds x = new LeafWorlds();
        due("empty text", world(x, ""), 0);
        due("lines", world(x, ASSOCIATIVE), 3);
        due("tape", x.count(5), 0);
        due("P", x.count(0), 7);
        sum(x, "m(x,x)");
        x.space(3);
        due("blanks", world(x, "\n act  mm\n3 ; mod 02;law -2 mm( x ,x,x\n)+mm(x,x,x);"), 3);
        due("P", x.count(0), 2);
        due("new sum", x.leaves(), 1);
        due("new sum", x.count(3), 0);
        due("new space", x.count(4), 1);
        due("nothing to undo", x.undo(), -1);
        due("law by 2", x.law(0, 1), 1);
        due("mod between acts", world(x, "act a 2;mod 3;act b 4;"), 3);
        due("no acts now", world(x, "mod 5;"), 1);
        due("acts", x.count(1), 0);
        due("97 without", world(x, "act a 2;"), 1);
        due("P", x.count(0), 97);
        due("a blank text", world(x, " \n "), 0);
        promise = 5;
        due("fault", x.fault(), 0);
        world(x, "mod 9;");
        due("fault", x.fault(), 2);
        x.trees(3);
        due("fault stays", x.fault(), 2);
        sum(x, "x");
        due("fault of the latest", x.fault(), 0);
        sum(x, "x+");
        due("fault", x.fault(), 1);
        x.map(0);
        due("fault of map", x.fault(), 0);
        plug(x, 0, "q");
        due("fault of plug", x.fault(), 3);
        plug(x, 5, "x");
        due("no fault of plug", x.fault(), 0);
        sum(x, "x+");
        x.feed(0, 0, 0, 0, 0);
        x.table(0);
        x.done(0);
        x.restore(0);
        due("others leave it", x.fault(), 1);
    }

    private static void worldFaults() {
        promise = 4;
        // 1: no token, or one that can't come.
        worldFault("act M 2;", 1, 4);
        worldFault("act m\t2;", 1, 5);
        worldFault("act \u00e9 2;", 1, 4);
        worldFault("act sevenle 2;", 1, 4);
        worldFault("act m 123;", 1, 6);
        worldFault("act m2;", 1, 4);
        worldFault("act 2m 2;", 1, 4);
        worldFault("act m 2;law 2m(x,x);", 1, 12);
        worldFault("act mod 2;", 1, 4);
        worldFault("act act 2;", 1, 4);
        worldFault("act law 2;", 1, 4);
        worldFault("act x 2;", 1, 4);
        worldFault("act 2 2;", 1, 4);
        worldFault("act m n;", 1, 6);
        worldFault("act m 2", 1, 7);
        worldFault("act m 2 \n", 1, 9);
        worldFault("act m 2 act n 2;", 1, 8);
        worldFault("mod m;", 1, 4);
        worldFault("mod;", 1, 3);
        worldFault(";", 1, 0);
        worldFault("acts m 2;", 1, 0);
        worldFault("act m 2;law;", 1, 11);
        worldFault("act m 2;law +m(x,x);", 1, 12);
        worldFault("act m 2;law --m(x,x);", 1, 13);
        worldFault("act m 2;law 2 3 m(x,x);", 1, 14);
        worldFault("act m 2;law m(x,x)+;", 1, 19);
        worldFault("act m 2;law m(x);", 1, 15);
        worldFault("act m 2;law m(x,x,x);", 1, 17);
        worldFault("act m 2;law m();", 1, 14);
        worldFault("act m 2;law m x,x);", 1, 14);
        worldFault("act m 2;law m;", 1, 13);
        worldFault("act m 2;law m(x,x)(", 1, 18);
        worldFault("act m 2;law m(x(x,x),x);", 1, 15);
        worldFault("act m 2;law m(x,2 x);", 1, 16);
        worldFault("act m 2;law m(x,x)=m(x,x);", 1, 18);
        // 2: numbers.
        for (String p : new String[] {"0", "1", "4", "49", "91", "98", "99"}) {
            worldFault("mod " + p + ";", 2, 4);
        }
        for (String n : new String[] {"0", "1", "5", "99"}) {
            worldFault("act m " + n + ";", 2, 6);
        }
        // 3: names, lines in a wrong order, leaves.
        worldFault("act m 2;act m 3;", 3, 12);
        worldFault("act m 2;law z(x,x);", 3, 12);
        worldFault("act m 2;law m(z,x);", 3, 14);
        worldFault("mod 3;mod 3;", 3, 6);
        worldFault("act m 2;law m(x,x);mod 3;", 3, 19);
        worldFault("act m 2;law m(x,x);act n 2;", 3, 19);
        worldFault("act m 2;law m(x,x)+m(x,m(x,x));", 3, 19);
        worldFault("act m 2;law m(x,x)+3 m(x,m(x,x));", 3, 21);
        worldFault("act m 2;law m(x,x)+x;", 3, 19);
        worldFault("act m 2;law x;", 3, 12);
        worldFault("act m 2;law 3 x;", 3, 14);
        // A tree with another number of leaves counts once it is read whole.
        worldFault("act m 2;law m(x,x)+m(x,m(x,z));", 3, 27);
        worldFault("act m 2;law m(x,x)+m(x,m(x,x)", 1, 29);
        worldFault("act m 2;law m(x,x)+m(x,m(x,x))Q", 3, 19);
        // 4: too many.
        worldFault("act a 2;act b 2;act c 2;act a 2;", 4, 24);
        worldFault("act a 2;act b 2;act c 2;law a(x,x);act d 2;", 3, 35);
        worldFault("act m 2;" + again("law m(x,x);", 19), 4, 8 + 18 * 11);
        worldFault("act q 4;law q(q(x,x,x,x),q(x,x,x,x),x,x);", 4, 33);
        worldFault("act q 4;law q(q(x,x,x,x),q(x,x,x,Q", 1, 33);
        worldFault("act m 2;law " + again("m(", 440), 1, 892);
        LeafWorlds x = new LeafWorlds();
        due("18 laws", world(x, "act m 2;" + again("law m(x,x);", 18)), 19);
        due("7 leaves", world(x, "act q 4;law q(q(x,x,x,x),x,x,x);"), 2);
        for (int p : new int[] {2, 3, 5, 89, 97}) {
            due("prime", world(x, "mod " + p + ";"), 1);
            due("prime", x.count(0), p);
        }
    }

    /** Words that the document tells itself are never an act's name: they can't come where a tree or an act is due. */
    private static void reservedWords() {
        LeafWorlds x = in(ASSOCIATIVE);
        x.image(0);
        sum(x, "3 m(x,x)");
        for (String word : new String[] {"mod", "act", "law"}) {
            promise = 4;
            worldFault("act m 2;law " + word + "(x,x);", 1, 12);
            worldFault("act m 2;law " + word + ";", 1, 12);
            worldFault("act m 2;law m(" + word + ",x);", 1, 14);
            worldFault("act m 2;law m(x,x)-4 " + word + "(x,x);", 1, 21);
            worldFault("law " + word + " 3;", 1, 4);
            promise = 10;
            sumFault(x, word, 1, 0);
            sumFault(x, "- " + word + "(x,x)", 1, 2);
            sumFault(x, "m(x," + word + "(x,x))", 1, 4);
            sumFault(x, "m(x,x)+" + word, 1, 7);
            // Past seven leaves it is still no leaf.
            sumFault(x, "m(x,m(x,m(x,m(x,m(x,m(x,m(x," + word, 1, 28);
            promise = 19;
            textFault(word, plug(x, 0, "  " + word + "(x,x)"), x, 1, 2);
            textFault(word, plug(x, 9, "m(" + word + ",x)"), x, 1, 2);
            promise = 27;
            textFault(word, map(x, 0, word), x, 1, 0);
            textFault(word, map(x, 0, word + "=m(x,x);"), x, 1, 0);
            textFault(word, map(x, 0, "m=m(x,x);" + word + "=m(x,x);"), x, 1, 9);
            textFault(word, map(x, 0, "m=" + word + "(x,x);"), x, 1, 2);
            textFault(word, map(x, 0, "m=m(x," + word + ");"), x, 1, 6);
            textFault(word, map(x, 0, "m=2 " + word + ";"), x, 1, 4);
        }
        // A leaf is a tree, but no act.
        textFault("x", map(x, 0, "x=m(x,x);"), x, 1, 0);
        textFault("x", map(x, 0, "m=m(x,x);x"), x, 1, 9);
        // Words that only begin like them could be names.
        for (String word : new String[] {"mods", "acts", "lawx", "xx", "mo", "ac", "la"}) {
            promise = 4;
            worldFault("act m 2;law " + word + "(x,x);", 3, 12);
            promise = 10;
            sumFault(x, word + "(x,x)", 3, 0);
            promise = 19;
            textFault(word, plug(x, 0, word), x, 3, 0);
            promise = 27;
            textFault(word, map(x, 0, word + "=m(x,x);"), x, 3, 0);
            textFault(word, map(x, 0, "m=" + word + "(x,x);"), x, 3, 2);
            due("a name", world(new LeafWorlds(), "act " + word + " 2;law " + word + "(x,x);"), 2);
        }
        due("sum stays", show(x), "3 m(x,x)");
    }

    private static void textFault(String word, int answer, LeafWorlds x, int kind, int place) {
        due("text with " + word, answer, -1 - place);
        due("tape is empty", x.count(5), 0);
        int reading = promise;
        promise = 5;
        due("fault of text with " + word, x.fault(), kind);
        promise = reading;
    }

    private static void limits() {
        promise = 4;
        LeafWorlds x = new LeafWorlds();
        due("900 bytes", world(x, "mod 3;" + again(" ", 894)), 1);
        due("901 bytes", world(x, "mod 3;" + again(" ", 895)), -901);
        due("fault", x.fault(), 1);
        // A token that begins ahead of byte 900 is read whole.
        due("word over the edge", world(x, again(" ", 892) + "act mmmmmm 2;"), -901);
        due("fault", x.fault(), 1);
        due("long word over the edge", world(x, again(" ", 892) + "act mmmmmmm 2;"), -897);
        due("number over the edge", world(x, again(" ", 895) + "mod 98;" ), -900);
        due("fault", x.fault(), 2);
        due("fault ahead", world(x, "mod 4;" + again(" ", 900)), -5);
        due("tree cut", world(x, "act m 2;" + again(" ", 884) + "law m(x,x);"), -901);
        due("tree whole", world(x, "act m 2;" + again(" ", 886) + "law x;+"), -899);
        due("fault", x.fault(), 3);
        promise = 10;
        feed(x, "act m 2;");
        x.world();
        due("400 bytes", sum(x, "m(x,x)" + again(" ", 394)), 1);
        due("401 bytes", sum(x, "m(x,x)" + again(" ", 395)), -401);
        due("fault", x.fault(), 1);
        due("fault ahead", sum(x, again(" ", 399) + "zz"), -400);
        due("fault", x.fault(), 3);
        promise = 19;
        due("400 bytes", plug(x, 0, "m(x,x)" + again(" ", 394)), 1);
        due("401 bytes", plug(x, 9, "m(x,x)" + again(" ", 395)), -401);
        promise = 27;
        x.image(0);
        due("400 bytes", map(x, 0, "m=m(x,x);" + again(" ", 391)), 0);
        due("401 bytes", map(x, 0, "m=m(x,x);" + again(" ", 392)), -401);
        due("fault", x.fault(), 1);
    }

    private static void actsAndLaws() {
        LeafWorlds x = in("mod 5;act a 2;act b 3;act c 4;law 5 a(x,x);law b(x,x,x)-3 a(a(x,x),x)+0 a(x,a(x,x));law c(x,x,x,x);");
        promise = 6;
        due("act", x.act(0), 2);
        due("act", x.act(1), 3);
        due("act", x.act(2), 4);
        due("act", x.act(3), -1);
        due("act", x.act(-1), -1);
        promise = 7;
        due("leaves", x.law(0, 0), 2);
        due("terms", x.law(0, 1), 0);
        due("leaves", x.law(1, 0), 3);
        due("terms", x.law(1, 1), 2);
        due("leaves", x.law(2, 0), 4);
        due("none", x.law(3, 0), -1);
        due("none", x.law(-1, 0), -1);
        due("none", x.law(1, 2), -1);
        due("none", x.law(1, -1), -1);
        promise = 8;
        due("take", x.take(1), 2);
        due("taken", show(x), "2 a(a(x,x),x) + 1 b(x,x,x)");
        due("none", x.take(3), -1);
        due("none", x.take(-1), -1);
        due("stays", x.leaves(), 3);
        due("take of 0", x.take(0), 0);
        due("leaves of 0", x.leaves(), 2);
        due("undo", x.undo(), 2);
        due("undo", x.undo(), 0);
        due("undo", x.undo(), -1);
    }

    private static void counts() {
        promise = 9;
        LeafWorlds x = in("act a 2;act b 2;act c 2;");
        due("trees", x.trees(10), 95_698_746L);
        due("trees", x.trees(4), 135);
        x = in("act a 2;act b 4;");
        due("trees", x.trees(7), 256);
        due("trees", x.trees(0), -1);
        due("trees", x.trees(11), -1);
        due("trees", x.trees(-1), -1);
        x = in("act q 4;");
        due("trees", x.trees(4), 1);
        due("trees", x.trees(5), 0);
        due("trees", x.trees(7), 4);
        due("trees", x.trees(10), 22);
        promise = 36;
        x = in("mod 11;act a 2;law a(x,x);law a(x,x);");
        sum(x, "a(x,x)");
        x.space(2);
        x.feed(0, 0, 0, 0, 0);
        int[] want = {11, 1, 2, 1, 2, 20};
        for (int what = 0; what < 6; what++) {
            due("count", x.count(what), want[what]);
        }
        due("count", x.count(6), -1);
        due("count", x.count(-1), -1);
    }

    private static void sums() {
        promise = 10;
        LeafWorlds x = in("mod 7;act m 2;act nn 2;");
        due("sum", sum(x, "-m(x,x) + 10nn(x,x)"), -11);
        due("sum", sum(x, "-m(x,x) + 10 nn(x,x)+m ( x\n, x ) - 0m(x,x)"), -36);
        due("sum", sum(x, "-m(x,x) + 10 nn(x,x)+3 m ( x\n, x )"), 2);
        due("shown", show(x), "3 nn(x,x) + 2 m(x,x)");
        due("tape", x.count(5), 0);
        due("sum of 0", sum(x, "m(x,m(x,x))+6 m(x,m(x,x))"), 0);
        due("leaves of 0", x.leaves(), 3);
        due("sum of 0", sum(x, "7 m(x,x)"), 0);
        due("leaf", sum(x, "5 x - 2 x"), 1);
        due("shown", show(x), "3 x");
        sumFault(x, "", 1, 0);
        sumFault(x, "  ", 1, 2);
        sumFault(x, "m(x,x);", 1, 6);
        sumFault(x, "m(x,x) m(x,x)", 1, 7);
        sumFault(x, "m(x,x)-", 1, 7);
        sumFault(x, "3", 1, 1);
        sumFault(x, "3+x", 1, 1);
        sumFault(x, "z", 3, 0);
        sumFault(x, "m(x,zz)", 3, 4);
        sumFault(x, "x+m(x,x)", 3, 2);
        sumFault(x, "m(x,x)+4 x", 3, 9);
        sumFault(x, "m(x,m(x,m(x,m(x,m(x,m(x,m(x,x)))))))", 4, 28);
        sumFault(x, "x.", 1, 1);
        sumFault(x, "m(x,x", 1, 5);
        promise = 11;
        sum(x, "m(x,m(x,m(x,m(x,m(x,m(x,x))))))");
        due("leaves", x.leaves(), 7);
        promise = 12;
        sum(x, "2 nn(x,x) - m(x,x)");
        due("term", x.term(0), 2);
        due("term", x.term(1), 6);
        due("no term", termThrows(x, 2), true);
        due("no term", termThrows(x, -1), true);
        due("no term", termThrows(x, Integer.MAX_VALUE), true);
        due("stays", show(x), "2 nn(x,x) + 6 m(x,x)");
        promise = 13;
        due("byte", x.termAt(0, 1), 'n');
        due("byte", x.termAt(0, 6), ')');
        due("no byte", x.termAt(0, 7), -1);
        due("no byte", x.termAt(0, -1), -1);
        due("no term", x.termAt(2, 0), -1);
        due("no term", x.termAt(-1, 0), -1);
        x = in("act sixlet 2;act q 4;");
        String longest = "sixlet(sixlet(sixlet(x,x),x),sixlet(x,sixlet(x,sixlet(x,x))))";
        sum(x, longest);
        due("longest text", show(x), "1 " + longest);
        sum(x, "q(x,sixlet(x,q(x,x,x,x)),x,x)".replace("q(x,x,x,x)", "x"));
        due("text", show(x), "1 q(x,sixlet(x,x),x,x)");
    }

    private static void order() {
        promise = 10;
        LeafWorlds x = in("act a 2;act b 2;");
        sum(x, "a(x,b(x,x))+b(a(x,x),x)+b(x,a(x,x))+a(b(x,x),x)+a(x,a(x,x))");
        due("order", show(x), "1 b(a(x,x),x) + 1 a(b(x,x),x) + 1 b(x,a(x,x)) + 1 a(x,b(x,x)) + 1 a(x,a(x,x))");
        x = in("act a 2;act t 3;");
        sum(x, "t(x,x,x)+a(x,a(x,x))+a(a(x,x),x)");
        due("order", show(x), "1 a(a(x,x),x) + 1 t(x,x,x) + 1 a(x,a(x,x))");
        // The second leaf has paths "a t" and "a a": like long, so the act decides; the third is longer on one side.
        sum(x, "a(x,t(x,x,x))+a(x,a(x,a(x,x)))+a(x,a(a(x,x),x))");
        due("order", show(x), "1 a(x,a(a(x,x),x)) + 1 a(x,t(x,x,x)) + 1 a(x,a(x,a(x,x)))");
        promise = 16;
        x = in("act a 2;");
        String[] rising = {"a(x,a(x,a(x,x)))", "a(x,a(a(x,x),x))", "a(a(x,x),a(x,x))", "a(a(x,a(x,x)),x)", "a(a(a(x,x),x),x)"};
        for (int k = 0; k < rising.length; k++) {
            due("rising", normal(x, 4, k), rising[k]);
        }
    }

    private static void normals() {
        LeafWorlds x = in(ASSOCIATIVE);
        promise = 14;
        sum(x, "m(m(x,x),m(x,x)) + 2 m(m(m(x,x),x),x)");
        due("reduce", x.reduce(), 1);
        due("reduced", show(x), "3 m(x,m(x,m(x,x)))");
        sum(x, "m(m(x,x),x) - m(x,m(x,x))");
        due("reduce to 0", x.reduce(), 0);
        due("leaves", x.leaves(), 3);
        due("undo", x.undo(), 2);
        // A law that begins with a term the number of which is not 1, by 7: 3 g = -2 h, g = -2*5 h = 4 h.
        x = in("mod 7;act g 2;act h 2;law 3 h(x,x)+2 g(x,x);");
        sum(x, "h(x,x)");
        x.reduce();
        due("reduced", show(x), "4 g(x,x)");
        sum(x, "h(h(x,x),h(x,x))");
        due("reduce", x.reduce(), 1);
        due("reduced", show(x), "1 g(g(x,x),g(x,x))");
        // Laws have consequences in more leaves: m(m(x,x),x) = -m(x,m(x,x)) makes all of 4 leaves 0 by 97, but not by 2.
        x = in("act m 2;law m(m(x,x),x)+m(x,m(x,x));");
        sum(x, "m(x,m(x,m(x,x)))");
        due("reduce", x.reduce(), 0);
        x = in("mod 2;act m 2;law m(m(x,x),x)+m(x,m(x,x));");
        sum(x, "m(m(x,x),m(x,x))");
        due("reduce", x.reduce(), 1);
        x = in("act a 2;act b 2;");
        sum(x, "a(x,a(x,a(x,a(x,a(x,x)))))");
        due("too many", x.reduce(), -1);
        due("stays", x.count(3), 1);
        due("undo", x.undo(), 0);
        due("nothing was kept", x.undo(), -1);
        promise = 15;
        due("size", x.size(5), 224);
        due("too many", x.size(6), -1);
        due("size", x.size(0), -1);
        due("size", x.size(-5), -1);
        due("size", x.size(8), -1);
        x = in("act t 3;act u 3;act v 3;");
        due("size", x.size(5), 27);
        due("size", x.size(6), 0);
        due("too many", x.size(7), -1);
        x = in("act a 2;law a(x,x);");
        due("size", x.size(1), 1);
        due("size", x.size(2), 0);
        due("size", x.size(7), 0);
        x = in("act a 2;law a(x,a(x,x));law 97 a(x,x);");
        due("size", x.size(2), 1);
        due("size", x.size(3), 1);
        due("size", x.size(7), 1);
        promise = 16;
        due("normal", normal(x, 4, 0), "a(a(a(x,x),x),x)");
        due("no tree", x.normalAt(4, 1, 0), -1);
        due("no tree", x.normalAt(4, -1, 0), -1);
        due("no byte", x.normalAt(4, 0, -1), -1);
        due("no byte", x.normalAt(4, 0, 16), -1);
        due("no leaves", x.normalAt(0, 0, 0), -1);
        due("no leaves", x.normalAt(8, 0, 0), -1);
    }

    private static void bares() {
        promise = 17;
        LeafWorlds x = in("act m 2;law m(m(x,x),x)+m(x,m(x,x));");
        due("bare", x.bare(1), 1);
        due("bare", x.bare(3), 1);
        due("bare", x.bare(7), 1);
        due("bare", x.bare(0), -1);
        due("bare", x.bare(8), -1);
        promise = 18;
        due("closed", x.closed(3), -1);
        due("closed", x.closed(4), 4);
        due("closed", x.closed(7), 4);
        due("closed", x.closed(0), -2);
        due("closed", x.closed(8), -2);
        // Worlds in turn: what was found of one is not told of another.
        for (int turn = 0; turn < 6; turn++) {
            world(x, "act m 2;law m(m(x,x),x)+m(x,m(x,x));");
            due("not closed", x.closed(7), 4);
            due("koszul", x.koszul(7), 5);
            world(x, turn % 2 == 0 ? "act m 2;law m(m(x,x),x)-m(x,m(x,x));" : "mod 2;act m 2;law m(m(x,x),x)+m(x,m(x,x));");
            due("closed", x.closed(7), -1);
            due("bare", x.bare(5), 1);
            due("koszul", x.koszul(7), -1);
            if (turn % 2 == 0) {
                world(x, "");
            }
        }
        x = in("act m 2;law m(m(x,x),x)+m(x,m(x,x));");
        promise = 17;
        // The piece stands in the midst of the tree: a(x,b(..)) under b, with trees in its leaves.
        x = in("act a 2;act b 2;law a(x,b(x,x));law 0 b(x,x);");
        due("bare", x.bare(2), 2);
        due("bare", x.bare(3), 7);
        due("too many", x.bare(6), -1);
        promise = 18;
        due("closed", x.closed(7), -1);
        // Two laws with one greatest tree: not closed where they stand.
        x = in("act a 2;law a(a(x,x),x)-a(x,a(x,x));law a(a(x,x),x);");
        due("bare", x.bare(3), 1);
        due("closed", x.closed(2), -1);
        due("closed", x.closed(3), 3);
    }

    private static void plugs() {
        promise = 19;
        LeafWorlds x = in("mod 5;act m 2;act t 3;");
        sum(x, "2 m(x,x)");
        due("plug", plug(x, 1, "t(x,x,x)+3 m(m(x,x),x)"), 2);
        due("plugged", show(x), "1 m(x,m(m(x,x),x)) + 2 m(x,t(x,x,x))");
        due("leaves", x.leaves(), 4);
        due("plug", plug(x, 0, "2 m(x,x)"), 2);
        due("plugged", show(x), "2 m(m(x,x),m(m(x,x),x)) + 4 m(m(x,x),t(x,x,x))");
        due("leaf in leaf", plug(x, 4, "3 x"), 2);
        due("leaves", x.leaves(), 5);
        due("no such leaf", plug(x, 5, "x"), -1000);
        due("no such leaf", plug(x, -1, "x"), -1000);
        due("no such leaf ahead of too many", plug(x, 5, "t(x,t(x,x,x),x)"), -1000);
        due("too many leaves", plug(x, 0, "t(x,x,m(x,x))"), -1001);
        due("a fault ahead of all", plug(x, 9, "t(x,x,m(x,x)"), -13);
        due("fault", x.fault(), 1);
        due("tape", x.count(5), 0);
        due("stays", x.leaves(), 5);
        due("plug 0", plug(x, 0, "m(x,x)-m(x,x)"), 0);
        due("leaves of 0", x.leaves(), 6);
        due("undo", x.undo(), 2);
        // Cancelling terms: a sum put in a leaf may meet itself.
        sum(x, "x");
        due("plug", plug(x, 0, "m(x,m(x,x))-m(m(x,x),x)"), 2);
        // 36 terms of 5 leaves times 28 are above 1000.
        x = in("act a 2;act b 2;act c 2;");
        StringBuilder many = new StringBuilder();
        for (String one : new String[] {"a", "b", "c"}) {
            for (String other : new String[] {"a", "b", "c"}) {
                many.append(many.length() == 0 ? "" : "+").append(one + "(x," + other + "(x,x))+" + one + "(" + other + "(x,x),x)");
            }
        }
        due("18 terms", sum(x, many.toString()), 18);
        due("times 18", plug(x, 0, many.toString()), 324);
        due("324 times 4", plug(x, 0, "a(x,a(x,x))+b(x,a(x,x))+c(x,a(x,x))+a(x,b(x,x))"), -1001);
        due("stays", x.count(3), 324);
        due("324 times 3", plug(x, 0, "a(x,a(x,x))+b(x,a(x,x))+c(x,a(x,x))"), 972);
        due("leaves", x.leaves(), 7);
        due("times", x.times(2), 972);
        due("term", x.term(971), 2);
        // Ten terms times ten times ten: just 1000. A law of seven leaves then brings one more tree.
        x = in("act a 2;act b 2;act c 2;law c(c(c(c(c(c(x,x),x),x),x),x),x)+2 a(a(a(a(a(a(x,x),x),x),x),x),x);");
        String ten = "a(x,a(x,x))+b(x,a(x,x))+c(x,a(x,x))+a(x,b(x,x))+b(x,b(x,x))+c(x,b(x,x))+a(x,c(x,x))+b(x,c(x,x))+a(a(x,x),x)+b(a(x,x),x)";
        due("10 terms", sum(x, ten), 10);
        due("times 10", plug(x, 2, ten), 100);
        due("times 10", plug(x, 4, ten), 1000);
        due("leaves", x.leaves(), 7);
        due("a law behind", x.add(0, 1), 1002);
        due("term", x.term(0), 1);
        due("greatest", x.termAt(0, 0), 'c');
        due("term", x.term(1001), 1);
        due("least", x.termAt(1001, 2), 'x');
        due("leaf in leaf, too many terms", plug(x, 0, "x"), -1001);
        due("no such leaf is looked at first", plug(x, 7, "x"), -1000);
        due("undo", x.undo(), 1000);
        due("leaf in leaf", plug(x, 6, "2 x"), 1000);
        due("term", x.term(999), 2);
        sum(x, "x+x");
        due("terms that are one count once", plug(x, 0, again("x+", 199) + "x"), 1);
        due("shown", show(x), "12 x");
    }

    private static void factors() {
        promise = 20;
        LeafWorlds x = in(ASSOCIATIVE);
        sum(x, "2 m(x,x)");
        due("times", x.times(-1), 1);
        due("shown", show(x), "5 m(x,x)");
        due("times", x.times(999), 1);
        due("shown", show(x), "4 m(x,x)");
        due("times", x.times(-999), 1);
        due("shown", show(x), "1 m(x,x)");
        due("too much", x.times(1000), -1);
        due("too little", x.times(-1000), -1);
        due("least", x.times(Integer.MIN_VALUE), -1);
        due("stays", show(x), "1 m(x,x)");
        due("times 0", x.times(0), 0);
        due("leaves of 0", x.leaves(), 2);
        due("times on 0", x.times(5), 0);
        promise = 21;
        due("other leaves", x.add(0, 1), -1);
        sum(x, "m(m(x,x),x)");
        due("add", x.add(0, 2), 2);
        due("shown", show(x), "3 m(m(x,x),x) + 5 m(x,m(x,x))");
        due("add", x.add(0, -3), 1);
        due("shown", show(x), "1 m(x,m(x,x))");
        due("add", x.add(0, 999), 2);
        due("shown", show(x), "5 m(m(x,x),x) + 3 m(x,m(x,x))");
        due("no such law", x.add(1, 1), -1);
        due("no such law", x.add(-1, 1), -1);
        due("not as told", x.add(0, 1000), -1);
        due("not as told", x.add(0, -1000), -1);
        due("stays", show(x), "5 m(m(x,x),x) + 3 m(x,m(x,x))");
        due("add 0", x.add(0, 0), 2);
        due("undo of add 0", x.undo(), 2);
        due("undo", x.undo(), 1);
    }

    private static void undos() {
        promise = 22;
        LeafWorlds x = in(ASSOCIATIVE);
        due("nothing", x.undo(), -1);
        sum(x, "m(x,x)");
        for (int i = 0; i < 9; i++) {
            x.times(2);
        }
        // Nine calls made one of it, eight are kept: 2 m(x,x) is the first of them.
        for (int i = 0; i < 8; i++) {
            due("undo", x.undo(), 1);
        }
        due("shown", show(x), "2 m(x,x)");
        due("nothing more", x.undo(), -1);
        due("shown", show(x), "2 m(x,x)");
        x.take(0);
        x.reduce();
        plug(x, 0, "m(x,x)");
        x.drawn(4, 9);
        x.add(0, 1);
        x.times(1001);
        sum(x, "q");
        plug(x, 8, "x");
        x.take(9);
        x.drawn(0, 1);
        due("undo drawn", x.undo(), 0);
        due("leaves", x.leaves(), 4);
        due("undo plug", x.undo(), 0);
        due("leaves", x.leaves(), 3);
        due("undo reduce", x.undo(), 2);
        due("undo take", x.undo(), 1);
        due("shown", show(x), "2 m(x,x)");
        due("nothing more", x.undo(), -1);
        x.times(3);
        due("goes on", x.undo(), 1);
        x.times(3);
        world(x, "mod 4;");
        due("a world with a fault leaves it", x.undo(), 1);
        x.times(3);
        world(x, ASSOCIATIVE);
        due("a new world keeps nothing", x.undo(), -1);
    }

    private static void duals() {
        promise = 23;
        LeafWorlds x = in(ASSOCIATIVE);
        sum(x, "m(x,x)");
        x.space(3);
        x.times(3);
        due("dual", x.dual(), 1);
        due("sum stays", show(x), "3 m(x,x)");
        due("space", x.count(4), 1);
        due("nothing kept", x.undo(), -1);
        due("P", x.count(0), 7);
        x.take(0);
        due("law", show(x), "1 m(m(x,x),x) + 6 m(x,m(x,x))");
        x = in("act m 2;");
        due("dual of free", x.dual(), 2);
        x.take(0);
        due("greatest first", show(x), "1 m(m(x,x),x)");
        x.take(1);
        due("then the next", show(x), "1 m(x,m(x,x))");
        due("dual of that", x.dual(), 0);
        due("acts", x.count(1), 1);
        // 2 l + 3 r = 0 here; w: 2 wl - 3 wr = 0, so wl = 1, wr = 2/3 = 2 * 5 = 3 by 7.
        x = in("mod 7;act m 2;law 2 m(m(x,x),x)+3 m(x,m(x,x));");
        due("dual", x.dual(), 1);
        x.take(0);
        due("law", show(x), "1 m(m(x,x),x) + 3 m(x,m(x,x))");
        x = in("act a 2;act b 2;act c 2;");
        due("18 laws", x.dual(), 18);
        due("back", x.dual(), 0);
        x = in("act a 2;act b 2;law a(b(x,x),x)-b(x,a(x,x));law a(a(x,x),x);law 0 a(x,a(x,x));");
        due("dual", x.dual(), 6);
        due("each greatest in no other", x.law(0, 1), 1);
        x = in("act t 3;");
        due("three entries", x.dual(), -1);
        x = in("act a 2;law a(x,x);");
        due("two leaves", x.dual(), -1);
        due("stays", x.count(2), 1);
        x = in("act a 2;law 0 a(x,x);");
        due("two leaves of 0", x.dual(), -1);
        due("no acts", new LeafWorlds().dual(), 0);
    }

    private static void seriesAndKoszul() {
        promise = 24;
        LeafWorlds x = in("act m 2;");
        // f = t + t^2 + 2 t^3 + 5 t^4 ..: undone is t - t^2.
        long[] free = {1, -1, 0, 0, 0, 0, 0};
        for (int n = 1; n <= 7; n++) {
            due("undone", x.undone(n), free[n - 1]);
        }
        x = in("act a 2;act b 2;law a(a(x,x),x);law a(a(x,x),x);");
        due("undone", x.undone(2), -2);
        due("undone", x.undone(3), 1);
        due("too many", undoneThrows(x, 6), true);
        due("not as told", undoneThrows(x, 0), true);
        due("not as told", undoneThrows(x, 8), true);
        due("not as told", undoneThrows(x, -1), true);
        x = in(ASSOCIATIVE);
        for (int n = 1; n <= 7; n++) {
            due("undone", x.undone(n), n % 2 == 0 ? -1 : 1);
        }
        promise = 25;
        due("koszul", x.koszul(7), -1);
        due("koszul", x.koszul(1), -1);
        due("koszul", x.koszul(0), -2);
        due("koszul", x.koszul(8), -2);
        x = in("act m 2;law m(m(x,x),x)+m(x,m(x,x));");
        due("koszul", x.koszul(4), -1);
        due("koszul", x.koszul(5), 5);
        due("koszul", x.koszul(7), 5);
        due("koszul", x.koszul(4), -1);
        due("laws stay", x.count(2), 1);
        x = in("act t 3;");
        due("no dual", x.koszul(3), -2);
        x = in("act a 2;act b 2;");
        due("too many: none from there on", x.koszul(7), -1);
    }

    private static void layers() {
        promise = 26;
        LeafWorlds x = in(ASSOCIATIVE);
        due("nothing kept", x.layered(0, 1), -1);
        x.image(0);
        // Associative over associative: all ways to part n, 2 to the n - 1.
        due("layered", x.layered(0, 1), 1);
        due("layered", x.layered(0, 4), 8);
        due("layered", x.layered(0, 7), 64);
        due("no such place", x.layered(2, 1), -1);
        due("no such place", x.layered(-1, 1), -1);
        due("nothing kept", x.layered(1, 1), -1);
        due("not as told", x.layered(0, 0), -1);
        due("not as told", x.layered(0, 8), -1);
        world(x, "mod 3;act a 2;act b 2;");
        x.image(1);
        // Here 1, 2, 8; there 1, 1, 1: of 3 leaves 1*1 + 2*2 + 8.
        due("layered", x.layered(0, 3), 13);
        due("too many here", x.layered(0, 6), -1);
        due("layered", x.layered(0, 5) > 0, true);
        x.restore(0);
        // Here 1, 1, 1; there 1, 2, 8: 8 + 2*2 + 1.
        due("layered", x.layered(1, 3), 13);
        due("layered", x.layered(1, 2), 3);
        due("too many there", x.layered(1, 6), -1);
    }

    private static void maps() {
        promise = 27;
        LeafWorlds x = in("act m 2;law m(m(x,x),x)-m(x,m(x,x));");
        x.image(0);
        world(x, "act a 2;act t 3;law t(x,x,x)-a(x,a(x,x));law a(a(x,x),x)-a(x,a(x,x));law a(x,t(x,x,x))-2 t(x,a(x,x),x);law 97 a(x,x);");
        due("map", map(x, 0, "a=m(x,x);t=m(m(x,x),x);"), 3);
        promise = 28;
        due("broken", x.broken(), 2);
        promise = 27;
        due("map", map(x, 0, "t = 2 m(x,m(x,x)) ; a = 2 m(x,x);"), 2);
        promise = 28;
        due("broken", x.broken(), 0);
        promise = 27;
        due("all to 0", map(x, 0, "t=0 m(m(x,x),x);a=m(x,x)-m(x,x);"), 4);
        promise = 28;
        due("broken", x.broken(), -1);
        map(x, 0, "a=m(x,x);t=m(m(x,x),x);");
        map(x, 0, "a=");
        map(x, 1, "a=m(x,x);t=m(m(x,x),x);");
        due("faults leave it", x.broken(), 2);
        world(x, "mod 2;");
        x.restore(0);
        due("it stays", x.broken(), 2);
        promise = 27;
        x = in("mod 3;act a 2;act b 2;");
        x.image(0);
        world(x, "act a 2;law a(x,x);");
        due("unlike primes ahead of faults", map(x, 0, "q"), -1000);
        due("fault", x.fault(), 0);
        due("tape", x.count(5), 0);
        world(x, "mod 3;act a 2;law a(a(a(x,x),a(x,x)),a(x,x));law a(x,x);");
        due("too many there", map(x, 0, "a=a(x,x);"), -1001);
        due("a fault ahead", map(x, 0, "a=a(x,x)"), -9);
        due("no such place", map(x, 2, "a=a(x,x);"), -1000);
        due("no such place", map(x, -1, "a=a(x,x);"), -1000);
        due("broken ahead of any", x.broken(), -1);
        world(x, "mod 3;");
        due("no acts", map(x, 0, ""), 0);
        // The acts of the map are put in each other in their places: a(x,b(x,x)) is not b(x,a(x,x)).
        world(x, "mod 3;act a 2;act b 2;law a(a(x,x),b(x,x));");
        x.image(1);
        world(x, "mod 3;act c 2;act d 2;law c(c(x,x),d(x,x));law d(d(x,x),c(x,x));");
        due("map", map(x, 1, "c=2 a(x,x);d=b(x,x);"), 1);
        due("broken", x.broken(), 1);
        due("map", map(x, 1, "d=a(x,x);c=b(x,x);"), 1);
        due("broken", x.broken(), 0);
    }

    private static void mapFaults() {
        promise = 27;
        LeafWorlds x = in("act m 2;act k 3;");
        x.image(0);
        world(x, "act a 2;act b 3;");
        String[] texts = {"", "a", "a m(x,x);", "a=m(x,x)", "a=m(x,x);", "z=m(x,x);", "a=a(x,x);", "a=m(x,x);a=m(x,x);",
            "a=m(x,m(x,x));", "b=m(x,x);", "b=x;", "b=k(x,x,x)+m(x,x);", "a=m(x,x);b=k(x,x,x);;", "3=m(x,x);", "a=;", "a=3;",
            "b=m(x,m(x,m(x,m(x,m(x,m(x,m(x,x)))))));", "a=m(x,x)b=k(x,x,x);", "A=m(x,x);", "a==m(x,x);"};
        int[] kinds = {3, 1, 1, 1, 3, 3, 3, 3, 3, 3, 3, 3, 1, 1, 1, 1, 4, 1, 1, 1};
        int[] places = {0, 1, 2, 8, 9, 0, 2, 9, 2, 2, 2, 11, 20, 0, 2, 3, 30, 8, 0, 2};
        for (int i = 0; i < texts.length; i++) {
            due("map " + texts[i], map(x, 0, texts[i]), -1 - places[i]);
            due("fault of map " + texts[i], x.fault(), kinds[i]);
            due("tape", x.count(5), 0);
        }
        due("map", map(x, 0, "b=k(x,x,x)-m(m(x,x),x);\na=m(x,x);"), 0);
        due("fault", x.fault(), 0);
    }

    private static void tables() {
        LeafWorlds x = in("mod 7;act m 2;act t 3;law m(m(x,x),x)-m(x,m(x,x));law t(x,x,x)-m(x,m(x,x));");
        promise = 29;
        due("space", x.space(0), false);
        due("space", x.space(4), false);
        due("space", x.space(-1), false);
        due("ways", x.count(4), 1);
        due("space", x.space(2), true);
        due("ways", x.count(4), 2);
        promise = 30;
        // Numbers a + b w with w w = w: way 0 is 1, way 1 is w. Rows 00, 01, 10, 11, each with two numbers.
        due("table", table(x, 0, "\1\0\0\1\0\1\0\1"), true);
        due("tape", x.count(5), 0);
        due("too few", table(x, 0, "\1\0\0\1\0\1\0"), false);
        due("tape", x.count(5), 0);
        due("too many", table(x, 0, "\1\0\0\1\0\1\0\1\0"), false);
        due("no such act", table(x, 2, "\1\0\0\1\0\1\0\1"), false);
        due("no such act", table(x, -1, "\1\0\0\1\0\1\0\1"), false);
        due("tape", x.count(5), 0);
        promise = 31;
        due("holds", x.holds(0), 1);
        due("holds not", x.holds(1), 0);
        due("none", x.holds(2), -1);
        due("none", x.holds(-1), -1);
        due("table of t", table(x, 1, "\1\0\0\1\0\1\0\1\0\1\0\1\0\1\0\1"), true);
        due("holds", x.holds(1), 1);
        promise = 30;
        // 255 by 7 is 3, 250 is 5.
        table(x, 0, "\u00ff\0\0\u00fa\0\0\0\0");
        promise = 32;
        sum(x, "2 m(x,x)");
        due("done", done(x, 0, "\0\0"), 6);
        due("done", done(x, 1, "\0\1"), 3);
        due("done", done(x, 1, "\1\0"), 0);
        due("tape", x.count(5), 0);
        due("too few", done(x, 0, "\0"), -1);
        due("too many", done(x, 0, "\0\0\0"), -1);
        due("no such way", done(x, 0, "\0\2"), -1);
        due("no such way", done(x, 0, "\0\u00ff"), -1);
        due("no such way", done(x, 2, "\0\0"), -1);
        due("no such way", done(x, -1, "\0\0"), -1);
        due("tape", x.count(5), 0);
        // Leaf by leaf: m(x,m(x,x)) in 0 0 1: m(0,1) is 5 of way 1, and m(0, that) 25 of way 1.
        sum(x, "m(x,m(x,x))");
        due("done", done(x, 1, "\0\0\1"), 4);
        sum(x, "m(m(x,x),x)");
        due("done", done(x, 1, "\0\0\1"), 1);
        sum(x, "x");
        due("leaf", done(x, 1, "\1"), 1);
        due("leaf", done(x, 0, "\1"), 0);
        sum(x, "x-x");
        due("0", done(x, 0, "\1"), 0);
        promise = 29;
        x.space(2);
        sum(x, "m(x,x)");
        due("tables are 0", done(x, 0, "\0\0"), 0);
        promise = 30;
        x = in("act q 4;law q(q(x,x,x,x),x,x,x);");
        x.space(3);
        StringBuilder big = new StringBuilder(again("\0", 243));
        // The row 2 0 1 2 has the number 54 + 0 + 3 + 2, its way 1 the place 59 * 3 + 1.
        big.setCharAt(59 * 3 + 1, (char) 9);
        due("table", table(x, 0, big.toString()), true);
        sum(x, "q(x,x,x,x)");
        due("done", done(x, 1, "\2\0\1\2"), 9);
        due("done", done(x, 1, "\2\1\0\2"), 0);
        promise = 31;
        // q gives way 1 alone, and takes 2 in its first entry: twice is 0.
        due("holds", x.holds(0), 1);
        big.setCharAt(59 * 3 + 2, (char) 9);
        table(x, 0, big.toString());
        due("holds not", x.holds(0), 0);
    }

    private static void draws() {
        promise = 33;
        LeafWorlds x = in("mod 7;act m 2;act n 2;");
        due("drawn", x.drawn(3, 1), 1);
        // 1103515245 + 12345, without its last byte, is 4310654: by 8 it is 6.
        due("tree", show(x), "1 n(m(x,x),x)");
        due("drawn", x.drawn(3, 0), 1);
        // 12345 without its last byte is 48: 0 by 8.
        due("tree", show(x), "1 m(x,m(x,x))");
        // -1: -1103502900 as a number without sign is 3191464396, without its last byte 12466657, 1 by 8.
        due("drawn", x.drawn(3, -1), 1);
        due("tree", show(x), "1 m(x,n(x,x))");
        due("too many", x.drawn(6, 1), -1);
        due("not as told", x.drawn(0, 1), -1);
        due("not as told", x.drawn(8, 1), -1);
        due("stays", show(x), "1 m(x,n(x,x))");
        due("one leaf", x.drawn(1, 5), 1);
        due("tree", show(x), "1 x");
        due("undo", x.undo(), 1);
        due("leaves", x.leaves(), 3);
        x = in("act t 3;");
        due("no trees", x.drawn(2, 1), -1);
        due("no trees", x.drawn(6, 1), -1);
        due("trees", x.drawn(7, 1), 1);
    }

    private static void images() {
        LeafWorlds x = in("mod 7;act m 2;law m(m(x,x),x);");
        promise = 34;
        due("no such place", x.image(2), false);
        due("no such place", x.image(-1), false);
        promise = 35;
        due("no such place", x.restore(2), false);
        due("no such place", x.restore(-1), false);
        due("nothing kept", x.restore(0), false);
        promise = 34;
        x.space(2);
        table(x, 0, "\1\0\0\1\0\1\0\0");
        sum(x, "3 m(x,x)");
        due("image", x.image(1), true);
        table(x, 0, "\0\0\0\0\0\0\0\5");
        x.times(2);
        x.image(0);
        world(x, "mod 3;act a 3;act b 2;");
        sum(x, "b(x,x)");
        world(x, "mod 5;act a 3;");
        x.feed(0, 0, 0, 0, 0);
        promise = 35;
        due("restore", x.restore(1), true);
        due("tape stays", x.count(5), 20);
        x.end(0);
        due("P", x.count(0), 7);
        due("acts", x.count(1), 1);
        due("laws", x.count(2), 1);
        due("ways", x.count(4), 2);
        due("sum", show(x), "3 m(x,x)");
        due("nothing kept for undo", x.undo(), -1);
        due("table", done(x, 0, "\0\0"), 3);
        due("size", x.size(3), 1);
        due("restore", x.restore(0), true);
        due("sum", show(x), "6 m(x,x)");
        due("table", done(x, 1, "\1\1"), 2);
        due("again", x.restore(1), true);
        due("sum", show(x), "3 m(x,x)");
        // What is kept is not touched by what comes behind it.
        x.space(1);
        x.times(0);
        x.dual();
        x.restore(1);
        due("ways", x.count(4), 2);
        due("sum", show(x), "3 m(x,x)");
        due("laws", x.law(0, 1), 1);
        x.take(0);
        due("law", show(x), "1 m(m(x,x),x)");
    }
}
