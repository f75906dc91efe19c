/**
 * The sentences of the document's terms that tell what numbers, trees, worlds, series, maps, tables
 * and draws mean: a test for each, with the promise that uses it. What is due is found by hand.
 */
public final class MeaningSentencesTest {
    private static final Sentences S = new Sentences();
    private static final String ASSOCIATIVE = "act m 2;law m(m(x,x),x)-m(x,m(x,x));";
    private static final String OPPOSED = "act m 2;law m(m(x,x),x)+m(x,m(x,x));";
    private static final String ALL_OF_THREE_ARE_0 = "act m 2;law m(m(x,x),x);law m(x,m(x,x));";
    private static final long[] FREE = {1, 1, 2, 5, 14, 42, 132};

    public static void main(String[] args) {
        numbers();
        order();
        like();
        normal();
        sizes();
        tooMany();
        bare();
        closed();
        whichHaveDuals();
        lawsOfDuals();
        undone();
        koszul();
        layered();
        kept();
        tables();
        done();
        drawn();
        sumAtHand();
        throwsChangeNothing();
        S.finish(10, 11, 12, 14, 15, 16, 17, 18, 23, 24, 25, 26, 27, 30, 31, 32, 33);
    }

    private static void numbers() {
        S.terms(12, "Numbers are 0 to P less 1");
        for (int p : new int[] {2, 3, 89, 97}) {
            Probe x = Probe.in("mod " + p + ";");
            x.sum("-x");
            S.due("-1 by " + p, x.term(0), p - 1);
            x.sum((p - 1) + " x");
            S.due("P less 1", x.term(0), p - 1);
            S.due("P is 0", x.sum(p + " x"), 0);
            S.due("P less 1 and 1 are 0", x.sum((p - 1) + " x+x"), 0);
            S.due("-P is 0", x.sum("-" + p + " x"), 0);
        }
        Probe x = new Probe();
        S.due("99 by 97", x.sum("99 x"), 1);
        S.due("its number", x.term(0), 2);
        x.sum("-99 x");
        S.due("-99 by 97", x.term(0), 95);
    }

    private static void order() {
        String sentence = "Of two TREES with as many LEAVES the greater one: by the first LEAF the PATHS of which are unlike: the longer PATH; of like long ones the greater number of the first ACT that is unlike.";
        S.terms(16, sentence);
        rises("act m 2;", 4, "m(x,m(x,m(x,x)))", "m(x,m(m(x,x),x))", "m(m(x,x),m(x,x))", "m(m(x,m(x,x)),x)", "m(m(m(x,x),x),x)");
        rises("act a 2;act b 2;", 3, "a(x,a(x,x))", "a(x,b(x,x))", "b(x,a(x,x))", "b(x,b(x,x))",
            "a(a(x,x),x)", "a(b(x,x),x)", "b(a(x,x),x)", "b(b(x,x),x)");
        rises("act m 2;act t 3;", 3, "m(x,m(x,x))", "t(x,x,x)", "m(m(x,x),x)");
        rises("act t 3;act m 2;", 3, "t(x,x,x)", "m(x,m(x,x))", "m(m(x,x),x)");
        rises("act m 2;act q 4;", 4, "m(x,m(x,m(x,x)))", "m(x,m(m(x,x),x))", "q(x,x,x,x)", "m(m(x,x),m(x,x))", "m(m(x,m(x,x)),x)", "m(m(m(x,x),x),x)");
        rises("act t 3;act q 4;", 6, "t(x,x,q(x,x,x,x))", "t(x,q(x,x,x,x),x)", "q(x,x,x,t(x,x,x))", "q(x,x,t(x,x,x),x)",
            "q(x,t(x,x,x),x,x)", "t(q(x,x,x,x),x,x)", "q(t(x,x,x),x,x,x)");
        S.terms(10, sentence);
        // The number of an act counts, not its name.
        Probe x = Probe.in("act z 2;act a 2;");
        x.sum("z(x,x)+a(x,x)");
        S.due("greatest first", x.show(), "1 a(x,x) + 1 z(x,x)");
        // The third leaf has the paths "b a" and "b b", then "b a a" is longer than both.
        x = Probe.in("act a 2;act b 2;");
        x.sum("b(a(x,x),b(x,x))+b(a(x,x),a(x,x))");
        S.due("third leaf", x.show(), "1 b(a(x,x),b(x,x)) + 1 b(a(x,x),a(x,x))");
        x.sum("b(x,b(b(x,x),x))+b(x,a(a(x,x),x))+b(x,b(x,b(x,x)))");
        S.due("a longer path", x.show(), "1 b(x,b(b(x,x),x)) + 1 b(x,a(a(x,x),x)) + 1 b(x,b(x,b(x,x)))");
    }

    private static void rises(String world, int n, String... trees) {
        Probe x = Probe.in(world);
        S.due("trees of " + n, x.size(n), trees.length);
        for (int k = 0; k < trees.length; k++) {
            S.due("tree " + k + " of " + world, x.normal(n, k), trees[k]);
        }
    }

    private static void reduces(String world, String sum, String normal) {
        Probe x = Probe.in(world);
        x.sum(sum);
        int leaves = x.leaves();
        x.reduce();
        S.due(sum + " in " + world, x.show(), normal);
        S.due("leaves", x.leaves(), leaves);
    }

    private static void like() {
        S.terms(14, "LAWS put anywhere (TREES put in their LEAVES, they put in a LEAF of a TREE), times numbers, added.");
        String world = "act a 2;act b 2;law a(x,x);";
        reduces(world, "a(x,x)", "");
        reduces(world, "a(b(x,x),x)", "");
        reduces(world, "a(x,b(x,b(x,x)))", "");
        reduces(world, "b(a(x,x),x)", "");
        reduces(world, "b(x,b(x,a(x,x)))", "");
        reduces(world, "b(x,a(b(x,x),b(x,x)))", "");
        reduces(world, "b(x,b(x,x))", "1 b(x,b(x,x))");
        reduces(world, "x", "1 x");
        reduces("mod 3;act a 2;act b 2;law a(x,x)+b(x,x);law a(x,x)-b(x,x);", "a(x,x)", "");
        reduces("mod 2;act a 2;act b 2;law a(x,x)+b(x,x);law a(x,x)-b(x,x);", "b(x,x)", "1 a(x,x)");
        String rule = "mod 7;act a 2;act b 2;law b(b(x,x),x)-2 a(x,b(x,x))-3 a(x,a(x,x));";
        reduces(rule, "b(b(x,x),x)", "2 a(x,b(x,x)) + 3 a(x,a(x,x))");
        reduces(rule, "a(x,b(b(x,x),x))", "2 a(x,a(x,b(x,x))) + 3 a(x,a(x,a(x,x)))");
        reduces(rule, "a(b(b(x,x),x),x)", "2 a(a(x,b(x,x)),x) + 3 a(a(x,a(x,x)),x)");
        String four = "act q 4;act m 2;act n 2;law n(x,x)-5 m(x,x);";
        reduces(four, "q(n(x,x),x,x,x)", "5 q(m(x,x),x,x,x)");
        reduces(four, "q(x,n(x,x),x,x)", "5 q(x,m(x,x),x,x)");
        reduces(four, "q(x,x,n(x,x),x)", "5 q(x,x,m(x,x),x)");
        reduces(four, "q(x,x,x,n(x,x))", "5 q(x,x,x,m(x,x))");
        // Laws tell nothing of trees with fewer leaves, and a law that is 0 tells nothing at all.
        reduces("act m 2;law m(x,m(x,x));", "m(x,x)", "1 m(x,x)");
        reduces("act m 2;law 97 m(x,x);", "m(x,x)", "1 m(x,x)");
        reduces("act m 2;law 2 m(x,x)-2 m(x,x);", "m(x,x)", "1 m(x,x)");
    }

    private static void normal() {
        S.terms(14, "NORMAL: of all SUMS that are LIKE one the one the greatest TREE of which is least, then the next one, and so on: it has NORMAL TREES alone (those that are LIKE no SUM of lesser ones)");
        String three = "mod 7;act a 2;act b 2;act c 2;";
        // 2 c + 3 b - a = 0: c = 4 (-3 b + a) = 2 b + 4 a by 7.
        reduces(three + "law 2 c(x,x)+3 b(x,x)-a(x,x);", "c(x,x)", "2 b(x,x) + 4 a(x,x)");
        reduces(three + "law 2 c(x,x)+3 b(x,x)-a(x,x);", "c(x,x)+5 b(x,x)+3 a(x,x)", "");
        // c = b and c = 3 a: so b = 3 a too.
        reduces(three + "law c(x,x)-b(x,x);law c(x,x)-3 a(x,x);", "c(x,x)+b(x,x)", "6 a(x,x)");
        reduces("mod 7;" + ASSOCIATIVE, "m(m(m(x,x),x),x)+2 m(m(x,x),m(x,x))", "3 m(x,m(x,m(x,x)))");
        reduces("mod 7;" + ASSOCIATIVE, "m(x,m(x,x))", "1 m(x,m(x,x))");
        reduces(OPPOSED, "m(m(x,x),x)", "96 m(x,m(x,x))");
        // m(m(x,x),m(x,x)) is -m(m(m(x,x),x),x) and -m(x,m(x,m(x,x))) and so on round: twice the least one is 0.
        reduces(OPPOSED, "m(x,m(x,m(x,x)))", "");
        reduces("mod 2;" + OPPOSED, "m(m(x,x),m(x,x))", "1 m(x,m(x,m(x,x)))");
        Probe x = Probe.in("act a 2;act b 2;law b(b(x,x),x)-a(x,a(x,x))-2 a(x,b(x,x));");
        S.due("seven of eight trees are normal", x.size(3), 7);
        for (int k = 0; k < 7; k++) {
            S.due("no greatest tree of a law is normal", x.normal(3, k).equals("b(b(x,x),x)"), false);
        }
    }

    private static final String SIZE = "SIZE of n LEAVES: how many NORMAL TREES there are. (1 to 7 LEAVES, as long as there are 300 TREES of so many at most: else TOO MANY.)";

    private static void sizes() {
        S.terms(15, SIZE);
        // All trees are normal here; the numbers are those of trees, -1 above 300 of them.
        long[][] free = {{1, 0, 0, 0, 0, 0, 0}, FREE, {1, 0, 1, 0, 3, 0, 12}, {1, 0, 0, 1, 0, 0, 4},
            {1, 2, 8, 40, 224, -1, -1}, {1, 1, 2, 6, 20, 70, 256}, {1, 1, 3, 10, 38, 154, -1},
            {1, 2, 8, 41, 236, -1, -1}, {1, 2, 9, 50, -1, -1, -1}, {1, 3, 18, 135, -1, -1, -1},
            {1, 0, 3, 0, 27, 0, -1}, {1, 1, 4, 15, 68, -1, -1}, {1, 0, 2, 1, 12, 14, 100}};
        String[] worlds = {"", "act a 2;", "act a 3;", "act a 4;", "act a 2;act b 2;", "act a 2;act b 4;", "act a 3;act b 2;",
            "act a 2;act b 2;act c 4;", "act a 3;act b 2;act c 2;", "act a 2;act b 2;act c 2;", "act a 3;act b 3;act c 3;",
            "act a 2;act b 3;act c 3;", "act a 3;act b 3;act c 4;"};
        for (int w = 0; w < worlds.length; w++) {
            Probe x = Probe.in(worlds[w]);
            for (int n = 7; n >= 1; n--) {
                S.due("size of " + n + " in " + worlds[w], x.size(n), free[w][n - 1]);
                S.due("bare of " + n + " in " + worlds[w], x.bare(n), free[w][n - 1]);
            }
            S.due("size of 0", x.size(0), -1);
            S.due("size of 8", x.size(8), -1);
        }
        Probe x = Probe.in(ASSOCIATIVE);
        for (int n = 1; n <= 7; n++) {
            S.due("associative", x.size(n), 1);
        }
        x = Probe.in("act a 2;act b 2;law a(x,x)-b(x,x);");
        S.due("all trees count, those that are not normal too", x.size(6), -1);
        S.due("in 5 leaves one act's trees are left", x.size(5), 14);
    }

    private static void tooMany() {
        S.terms(14, "else TOO MANY");
        Probe x = Probe.in("act a 2;act b 2;act c 3;law a(x,x)-b(x,x);law c(x,x,x);");
        x.sum("a(x,a(x,a(x,a(x,x))))");
        // 311 trees of 5 leaves.
        S.due("trees", x.trees(5), 311);
        S.due("reduce", x.reduce(), -1);
        S.due("size", x.size(5), -1);
        S.due("bare", x.bare(5), -1);
        S.due("normalAt", x.normalAt(5, 0, 0), -1);
        S.due("drawn", x.drawn(5, 1), -1);
        S.due("undone", x.undoneThrows(5), true);
        S.due("closed", x.closed(7), -1);
        x.image(0);
        S.due("layered", x.layered(0, 5), -1);
        S.due("map", x.map(0, "a=a(x,x);b=b(x,x);c=c(x,x,x);"), 2);
        // 50 trees of 4 leaves.
        S.due("trees", x.trees(4), 50);
        S.due("size", x.size(4), 5);
        S.due("bare", x.bare(4), 5);
        S.due("normalAt", x.normalAt(4, 4, 0), 'a');
        S.due("drawn", x.drawn(4, 1), 1);
        S.due("undone", x.undoneThrows(4), false);
        S.due("layered", x.layered(0, 4) > 0, true);
        S.due("reduce", x.reduce() >= 0, true);
    }

    private static void bare() {
        S.terms(17, "BARE: a TREE in which no LAW's greatest TREE stands (as a piece: TREES in place of its LEAVES, and it in place of a LEAF of another; LAWS that are 0 have none)");
        Probe x = Probe.in("act a 2;act b 2;law a(x,b(x,x));");
        // a(T, b(T, T)) never stands: of 2 leaves 2; of 3, under b 4 and under a 3; of 4, under b 18 and under a 12.
        S.due("of 1", x.bare(1), 1);
        S.due("of 2", x.bare(2), 2);
        S.due("of 3", x.bare(3), 7);
        S.due("of 4", x.bare(4), 30);
        S.due("just those are normal", x.closed(5), -1);
        x = Probe.in("act a 2;act b 2;law b(x,x)-3 a(x,x);");
        S.due("the greatest tree alone: a's are bare", x.bare(2), 1);
        S.due("they stay so", x.bare(5), 14);
        x = Probe.in("act a 2;act b 2;law 0 b(x,x);law b(x,x)-b(x,x);law 97 a(x,x);");
        S.due("laws that are 0", x.bare(2), 2);
        S.due("laws that are 0", x.bare(5), 224);
        x = Probe.in("mod 3;act a 2;act b 2;law 3 b(x,x)+a(x,x);");
        S.due("the greatest tree that is not 0", x.bare(2), 1);
        S.due("it is b's", x.normal(2, 0), "b(x,x)");
        // A law with more leaves than the tree stands nowhere in it.
        x = Probe.in("act m 2;law m(x,m(x,m(x,x)));");
        S.due("of 3", x.bare(3), 2);
        S.due("of 4", x.bare(4), 4);
        // The piece in the first, midst and last entry.
        x = Probe.in("act t 3;act m 2;law m(x,x);");
        S.due("of 4", x.bare(4), 0);
        S.due("nor normal, the least one too", x.size(4), 0);
        S.due("of 5", x.bare(5), 3);
        // Laws of worlds ahead have none here.
        x.world("act m 2;");
        S.due("of 2", x.bare(2), 1);
        for (int between = 0; between < 4; between++) {
            x.world("act m 2;law m(x,m(x,x));");
            for (int i = 0; i < between; i++) {
                x.world("");
            }
            x.world("act m 2;");
            S.due("of 3", x.bare(3), 2);
        }
    }

    private static void closed() {
        S.terms(18, "CLOSED to n: in 1 to n LEAVES all BARE TREES are NORMAL.");
        Probe x = Probe.in(OPPOSED);
        S.due("to 3", x.closed(3), -1);
        S.due("in 4 the bare tree is 0", x.bare(4) - x.size(4), 1);
        S.due("to 4", x.closed(4), 4);
        S.due("to 7", x.closed(7), 4);
        x = Probe.in(ASSOCIATIVE);
        S.due("associative", x.closed(7), -1);
        // Two laws with one greatest tree: their difference is a new one, in 2 or in 7 leaves.
        x = Probe.in("act a 2;act b 2;law b(x,x)-a(x,x);law b(x,x);");
        S.due("to 1", x.closed(1), -1);
        S.due("to 2", x.closed(2), 2);
        S.due("to 7, 6 are too many", x.closed(7), 2);
        String left = "m(m(m(m(m(m(x,x),x),x),x),x),x)";
        String right = "m(x,m(x,m(x,m(x,m(x,m(x,x))))))";
        x = Probe.in("act m 2;law " + left + "-" + right + ";law " + left + ";");
        S.due("to 6", x.closed(6), -1);
        S.due("to 7", x.closed(7), 7);
    }

    private static void whichHaveDuals() {
        S.terms(23, "DUAL of a WORLD the ACTS of which have two entries all, and the LAWS 3 LEAVES all");
        S.due("no acts, no laws", new Probe().dual(), 0);
        S.due("one act", Probe.in("act m 2;").dual(), 2);
        S.due("three acts", Probe.in("act a 2;act b 2;act c 2;").dual(), 18);
        S.due("one law", Probe.in(ASSOCIATIVE).dual(), 1);
        S.due("an act of 3", Probe.in("act m 2;act t 3;").dual(), -1);
        S.due("an act of 4", Probe.in("act q 4;").dual(), -1);
        S.due("a law of 2", Probe.in("act m 2;law m(x,m(x,x));law m(x,x);").dual(), -1);
        S.due("a law of 4", Probe.in("act m 2;law m(x,m(x,m(x,x)));").dual(), -1);
        S.due("a law of 2 that is 0", Probe.in("act m 2;law 0 m(x,x);").dual(), -1);
        S.due("a law of 3 that is 0", Probe.in("act m 2;law 0 m(x,m(x,x));").dual(), 2);
        S.due("a law told 18 times", Probe.in("act m 2;" + "law m(x,m(x,x));".repeat(18)).dual(), 1);
    }

    private static void lawsOfDuals() {
        S.terms(23, "numbers of r times those of w, added over TREES a ( b ( x , x ) , x ), less those over a ( x , b ( x , x ) ), is 0");
        dualLaws("mod 7;" + ASSOCIATIVE, "1 m(m(x,x),x) + 6 m(x,m(x,x))");
        dualLaws("mod 7;" + OPPOSED, "1 m(m(x,x),x) + 1 m(x,m(x,x))");
        dualLaws("act m 2;law m(m(x,x),x);", "1 m(x,m(x,x))");
        dualLaws("act m 2;law m(x,m(x,x));", "1 m(m(x,x),x)");
        dualLaws(ALL_OF_THREE_ARE_0);
        dualLaws("mod 2;" + ASSOCIATIVE, "1 m(m(x,x),x) + 1 m(x,m(x,x))");
        // 2 wl - 3 wr = 0: with wl = 1, wr = 2 / 3 = 2 * 5 = 3 by 7.
        dualLaws("mod 7;act m 2;law 2 m(m(x,x),x)+3 m(x,m(x,x));", "1 m(m(x,x),x) + 3 m(x,m(x,x))");
        S.terms(23, "the one set of such SUMS by which all are made, with the greatest TREES unlike, each greatest one with 1, and in no other one of the set; the greatest first");
        dualLaws("act m 2;", "1 m(m(x,x),x)", "1 m(x,m(x,x))");
        // w of a(a,x), 2 w of a(b,x), and w of a(x,a) added are 0: the least of them, a(x,a), is told by the two greater ones.
        dualLaws("mod 7;act a 2;act b 2;law a(a(x,x),x)+2 a(b(x,x),x)-a(x,a(x,x));", "1 b(b(x,x),x)", "1 b(a(x,x),x)",
            "1 a(b(x,x),x) + 5 a(x,a(x,x))", "1 a(a(x,x),x) + 6 a(x,a(x,x))", "1 b(x,b(x,x))", "1 b(x,a(x,x))", "1 a(x,b(x,x))");
        // w of a(x,a), with w of a(a,x) and with w of b(b,x), is 0: so these two are like ones.
        dualLaws("mod 7;act a 2;act b 2;law a(a(x,x),x)-a(x,a(x,x));law b(b(x,x),x)-a(x,a(x,x));",
            "1 b(b(x,x),x) + 1 a(a(x,x),x) + 6 a(x,a(x,x))", "1 b(a(x,x),x)", "1 a(b(x,x),x)", "1 b(x,b(x,x))", "1 b(x,a(x,x))", "1 a(x,b(x,x))");
        // The same, told by laws the second of which has the least tree: w of a(a,x) is -2, w of a(x,a) is 2 by 7.
        dualLaws("mod 7;act a 2;act b 2;law a(a(x,x),x)+2 b(b(x,x),x);law a(x,a(x,x))-a(a(x,x),x);",
            "1 b(b(x,x),x) + 5 a(a(x,x),x) + 2 a(x,a(x,x))", "1 b(a(x,x),x)", "1 a(b(x,x),x)", "1 b(x,b(x,x))", "1 b(x,a(x,x))", "1 a(x,b(x,x))");
        // Back again: the dual of the dual has the sums of the laws, in the one form.
        Probe x = Probe.in("mod 7;act a 2;act b 2;law 3 a(a(x,x),x)+3 b(x,a(x,x));law 2 a(a(x,x),x);");
        S.due("dual", x.dual(), 6);
        S.due("dual of the dual", x.dual(), 2);
        S.due("law 0", x.law(0), "1 a(a(x,x),x)");
        S.due("law 1", x.law(1), "1 b(x,a(x,x))");
    }

    private static void dualLaws(String world, String... laws) {
        Probe x = Probe.in(world);
        S.due("laws of the dual of " + world, x.dual(), laws.length);
        for (int l = 0; l < laws.length; l++) {
            S.due("law " + l + " of the dual of " + world, x.law(l), laws[l]);
        }
    }

    private static void undoes(String world, long... numbers) {
        Probe x = Probe.in(world);
        for (int n = 1; n <= 7; n++) {
            S.due("undone of " + n + " leaves throws in " + world, x.undoneThrows(n), n > numbers.length);
            if (n <= numbers.length) {
                S.due("undone of " + n + " leaves in " + world, x.undone(n), numbers[n - 1]);
            }
        }
    }

    private static void undone() {
        S.terms(24, "SERIES of a WORLD: f = SIZE of 1 LEAF times t and SIZE of 2 times t t and so on. UNDONE: the series g with g of f = t; its n-th number.");
        undoes("", 1, 0, 0, 0, 0, 0, 0);
        // f = t + f f: g = t - t t; so for more acts, and more entries.
        undoes("act m 2;", 1, -1, 0, 0, 0, 0, 0);
        undoes("act a 2;act b 2;", 1, -2, 0, 0, 0);
        undoes("act t 3;", 1, 0, -1, 0, 0, 0, 0);
        undoes("act q 4;", 1, 0, 0, -1, 0, 0, 0);
        undoes("act m 2;act t 3;", 1, -1, -1, 0, 0, 0);
        undoes("act t 3;act u 3;act v 3;", 1, 0, -3, 0, 0, 0);
        undoes("act a 2;act b 2;act c 2;", 1, -3, 0, 0);
        undoes(ASSOCIATIVE, 1, -1, 1, -1, 1, -1, 1);
        undoes("act m 2;law m(x,x);", 1, 0, 0, 0, 0, 0, 0);
        // f = t + t t: the numbers of trees of twos, each second one less.
        undoes(ALL_OF_THREE_ARE_0, 1, -1, 2, -5, 14, -42, 132);
    }

    private static void koszul() {
        S.terms(25, "KOSZUL to n: for no k from 1 to n the k-th number of UNDONE is unlike SIZE of k of its DUAL, times -1 for even k.");
        for (String world : new String[] {"", "act m 2;", ASSOCIATIVE, ALL_OF_THREE_ARE_0, "act m 2;law m(x,m(x,x));"}) {
            S.due("koszul: " + world, Probe.in(world).koszul(7), -1);
        }
        // f = t + tt + ttt: g = t - tt + ttt - 4 ttttt, but the dual has the same sizes, 0 of 5.
        Probe x = Probe.in(OPPOSED);
        S.due("to 4", x.koszul(4), -1);
        S.due("to 5", x.koszul(5), 5);
        S.due("to 7", x.koszul(7), 5);
        // Worlds in turn: what was found of one is not told of the next.
        x.world(ASSOCIATIVE);
        S.due("the next", x.koszul(7), -1);
        x.world(OPPOSED);
        S.due("the one again", x.koszul(7), 5);
        x.world("act m 2;");
        S.due("another", x.koszul(7), -1);
        // f = t + 2 tt + ttt: 143 at 5; the dual has 147 there: t - 2 tt + ttt - 4 ttttt, undone. 6 leaves are too many.
        String with0 = "law m(n(x,x),x);law m(x,n(x,x));law n(m(x,x),x);law n(x,m(x,x));law n(n(x,x),x);law n(x,n(x,x));";
        x = Probe.in("act m 2;act n 2;law m(m(x,x),x)+m(x,m(x,x));" + with0);
        S.due("143 at 5", x.undone(5), 143);
        S.due("to 4", x.koszul(4), -1);
        S.due("to 5", x.koszul(5), 5);
        S.due("to 7, with too many", x.koszul(7), 5);
        x.dual();
        S.due("147 at 5", x.size(5), 147);
    }

    private static void layered() {
        S.terms(26, "LAYERED: this WORLD over another one: of n LEAVES: for each m SIZE of m here times all ways to part n into m (in order, 1 each at least), SIZES there of the parts multiplied, added.");
        long[] freeOverOnes = {1, 2, 5, 15, 51, 188, 731};
        long[] onesOverFree = {1, 2, 5, 14, 42, 132, 429};
        Probe x = Probe.in(ASSOCIATIVE);
        x.image(0);
        for (int n = 1; n <= 7; n++) {
            S.due("ones over ones", x.layered(0, n), 1 << n - 1);
        }
        x.world("act m 2;");
        x.image(1);
        for (int n = 1; n <= 7; n++) {
            S.due("free over ones", x.layered(0, n), freeOverOnes[n - 1]);
        }
        x.restore(0);
        for (int n = 1; n <= 7; n++) {
            S.due("ones over free", x.layered(1, n), onesOverFree[n - 1]);
        }
        // Over a leaf alone, and a leaf alone over it: the sizes.
        x.world("mod 2;");
        for (int n = 1; n <= 7; n++) {
            S.due("a leaf over free", x.layered(1, n), FREE[n - 1]);
        }
        x.image(0);
        x.world("act m 2;");
        for (int n = 1; n <= 7; n++) {
            S.due("free over a leaf", x.layered(0, n), FREE[n - 1]);
        }
    }

    private static void kept() {
        S.terms(27, "It KEEPS a LAW, if that, each ACT being put so, is LIKE 0 there.");
        Probe x = Probe.in(ASSOCIATIVE.replace('m', 'k'));
        x.image(0);
        x.world(ASSOCIATIVE);
        S.due("as it is", x.map(0, "m=k(x,x);"), 1);
        S.due("times a number", x.map(0, "m=5 k(x,x);"), 1);
        S.due("all to 0", x.map(0, "m=0 k(x,x);"), 1);
        x.world(OPPOSED);
        S.due("2 k(x,k(x,x)) is not 0", x.map(0, "m=k(x,x);"), 0);
        S.due("0 is", x.map(0, "m=k(x,x)-k(x,x);"), 1);
        x.world("mod 2;act k 2;");
        x.image(0);
        x.world("mod 2;act m 2;law m(x,x);");
        S.due("1 by 2 is not 0", x.map(0, "m=k(x,x);"), 0);
        S.due("2 by 2 is", x.map(0, "m=2 k(x,x);"), 1);
        x.world(ASSOCIATIVE.replace('m', 'k'));
        x.image(0);
        // Of two acts each is put as its own sum; a law of both, one that is 0.
        x.world("act m 2;act t 3;law t(x,x,x)-m(m(x,x),x);law t(x,x,x)-2 m(x,m(x,x));law 0 m(x,x);law t(x,m(x,x),x)-m(t(x,x,x),x);");
        S.due("t is k twice", x.map(0, "m=k(x,x);t=k(x,k(x,x));"), 3);
        S.due("which", x.broken(), 1);
        // t = 2 k k, m = 2 k: t - 4 k k, t - 8 k k, and 4 k k k - 4 k k k.
        S.due("t is 2 k twice", x.map(0, "m=2 k(x,x);t=2 k(x,k(x,x));"), 2);
        S.due("which", x.broken(), 0);
        // A sum of two acts for one: (a + b)((a + b)(x,x),x) has four trees.
        String all = "law a(a(x,x),x)-a(x,a(x,x));law a(b(x,x),x)-a(x,b(x,x));law b(a(x,x),x)-b(x,a(x,x));";
        x.world("act a 2;act b 2;" + all + "law b(b(x,x),x)-b(x,b(x,x));");
        x.image(0);
        x.world("act a 2;act b 2;" + all);
        x.image(1);
        x.world(ASSOCIATIVE);
        S.due("all four are like", x.map(0, "m=a(x,x)+b(x,x);"), 1);
        S.due("three of four are", x.map(1, "m=a(x,x)+b(x,x);"), 0);
        S.due("a alone", x.map(1, "m=a(x,x);"), 1);
        S.due("b alone", x.map(1, "m=b(x,x);"), 0);
    }

    private static void tables() {
        S.terms(30, "a SPACE of 1 to 3 ways; an ACT with m entries takes m vectors of numbers to one: for each row of m ways (the last one soonest) and each way of the outcome a number.");
        Probe x = Probe.in("act t 3;");
        x.space(2);
        x.table(0, "\0\1\2\3\4\5\6\7\10\11\12\13\14\15\16\17");
        x.sum("t(x,x,x)");
        for (int row = 0; row < 8; row++) {
            String ways = "" + (char) (row >> 2) + (char) (row >> 1 & 1) + (char) (row & 1);
            S.due("way 0 of row " + row, x.done(0, ways), 2 * row);
            S.due("way 1 of row " + row, x.done(1, ways), 2 * row + 1);
        }
        x = Probe.in("act m 2;");
        x.space(3);
        StringBuilder bytes = new StringBuilder();
        for (int i = 0; i < 27; i++) {
            bytes.append((char) (i + 40));
        }
        x.table(0, bytes.toString());
        x.sum("m(x,x)");
        S.due("row 2 1, way 0", x.done(0, "\2\1"), 61);
        S.due("row 1 2, way 2", x.done(2, "\1\2"), 57);
        S.due("row 2 2, way 2", x.done(2, "\2\2"), 66);
        x = Probe.in("act q 4;");
        S.due("a space of 1 way: one number", x.table(0, "\7"), true);
        x.sum("q(x,x,x,x)");
        S.due("it", x.done(0, "\0\0\0\0"), 7);
        x.sum("q(x,q(x,x,x,x),x,x)");
        S.due("twice", x.done(0, "\0\0\0\0\0\0\0"), 49);
    }

    private static void done() {
        S.terms(32, "DONE: a TREE in vectors, LEAF by LEAF; SUMS added.");
        // Way 0 is 1, way 1 is w with w w = -1, by 7.
        Probe x = Probe.in("mod 7;act m 2;law m(m(x,x),x)-m(x,m(x,x));law m(x,x);");
        x.space(2);
        x.table(0, "\1\0\0\1\0\1\6\0");
        x.sum("m(m(x,x),m(x,x))");
        S.due("w w w w is 1", x.done(0, "\1\1\1\1"), 1);
        S.due("it has no w", x.done(1, "\1\1\1\1"), 0);
        S.due("w w 1 w is -w", x.done(1, "\1\1\0\1"), 6);
        x.sum("3 m(x,m(x,x))-5 m(m(x,x),x)");
        S.due("-2 of w w w, so 2 w", x.done(1, "\1\1\1"), 2);
        // Leaf by leaf, where the places differ: m(0, 1) is way 0, all else 0.
        x.table(0, "\0\0\1\0\0\0\0\0");
        x.sum("m(x,m(x,x))");
        S.due("0 (0 1)", x.done(0, "\0\0\1"), 0);
        x.sum("m(m(x,x),x)");
        S.due("(0 1) 1", x.done(0, "\0\1\1"), 1);
        S.due("(0 1) 0", x.done(0, "\0\1\0"), 0);
        S.terms(31, "A LAW HOLDS, if DONE in ways (each LEAF one of them) it is 0 always.");
        S.due("((0 1) 1) is not 0", x.holds(0), 0);
        S.due("nor is (0 1)", x.holds(1), 0);
        x.table(0, "\1\0\0\1\0\1\6\0");
        S.due("w w = -1 is associative", x.holds(0), 1);
        S.due("but not 0", x.holds(1), 0);
        x.space(2);
        S.due("all tables 0: 0 always", x.holds(1), 1);
        // One row of ways, the last one, and one way of the outcome is enough.
        x.table(0, "\0\0\0\0\0\0\0\1");
        S.due("1 1 is not 0", x.holds(1), 0);
        x.table(0, "\0\0\0\0\0\0\0\7");
        S.due("7 is 0 by 7", x.holds(1), 1);
        // Ways of the outcome that are 0 together are not 0.
        x.table(0, "\0\0\0\0\0\0\1\6");
        S.due("1 of way 0, -1 of way 1", x.holds(1), 0);
        x = Probe.in("mod 2;act m 2;law m(x,x);law m(m(x,x),x)+m(x,m(x,x));");
        x.table(0, "\1");
        S.due("1 by 2", x.holds(0), 0);
        S.due("1 and 1 by 2", x.holds(1), 1);
    }

    private static void drawn() {
        S.terms(33, "DRAWN by a seed s: for each draw of n s becomes s * 1103515245 + 12345 (an int, wrapping), the draw is (s &gt;&gt;&gt; 8) % n: the TREE of n LEAVES (as TREES rise) with the number of a draw of all.");
        int[] seeds = {0, 1, -1, 2, 48, 12345, -12345, 1 << 30, Integer.MAX_VALUE, Integer.MIN_VALUE, Integer.MIN_VALUE + 1};
        Probe x = Probe.in("act a 2;");
        String[] rising = {"a(x,a(x,a(x,x)))", "a(x,a(a(x,x),x))", "a(a(x,x),a(x,x))", "a(a(x,a(x,x)),x)", "a(a(a(x,x),x),x)"};
        for (int seed : seeds) {
            x.drawn(4, seed);
            S.due("drawn by " + seed, x.tree(0), rising[drawOf(5, seed)]);
        }
        // So near seeds have all low bytes once: of two trees, the byte that is cut off decides for some.
        x = Probe.in("act a 2;act b 2;");
        for (int seed = 0; seed < 256; seed++) {
            x = seed == 128 ? Probe.in("act a 2;act b 2;") : x;
            x.drawn(2, seed);
            S.due("drawn by " + seed, x.termAt(0, 0), "ab".charAt(drawOf(2, seed)));
        }
        // Of all trees, not of the normal ones alone.
        x = Probe.in(ASSOCIATIVE.replace('m', 'a') + "law a(x,a(x,x));");
        x.drawn(4, 3);
        S.due("drawn where all trees are 0", x.tree(0), rising[drawOf(5, 3)]);
        S.due("its number", x.term(0), 1);
    }

    /** The first draw of n by a seed, in numbers that do not wrap. */
    private static int drawOf(int n, int seed) {
        long turned = seed * 1103515245L + 12345L;
        return (int) (((turned & 0xffffffffL) >> 8) % n);
    }

    private static void sumAtHand() {
        S.terms(11, "The SUM at hand: 0 of 1 LEAF at first and in a new WORLD");
        Probe x = new Probe();
        S.due("leaves at first", x.leaves(), 1);
        S.due("terms at first", x.count(3), 0);
        x.world("act m 2;");
        x.sum("m(x,m(x,x))");
        x.world("act m 2;");
        S.due("leaves in a new world", x.leaves(), 1);
        S.due("terms in a new world", x.count(3), 0);
        S.terms(12, "it is held without TERMS that are 0, the greatest TREE first");
        x.world("mod 5;act a 2;act b 2;act c 2;law a(x,x)+2 b(x,x)+4 c(x,x);");
        S.due("terms", x.sum("a(x,x)+0 b(x,x)+3 c(x,x)"), 2);
        S.due("held", x.show(), "3 c(x,x) + 1 a(x,x)");
        S.due("5 is 0", x.sum("5 a(x,x)+2 b(x,x)+3 b(x,x)"), 0);
        S.due("held", x.show(), "");
        x.sum("c(x,x)+a(x,x)");
        S.due("added to 0", x.add(0, 1), 2);
        S.due("held", x.show(), "2 b(x,x) + 2 a(x,x)");
        S.due("times 0", x.times(0), 0);
        S.due("times 10", x.times(10), 0);
        S.due("a law of 0 terms", Probe.in("act m 2;law m(x,x)-m(x,x);").take(0), 0);
    }

    private static void throwsChangeNothing() {
        S.terms(24, "A call that throws changes nothing.");
        Probe x = Probe.in("act a 2;act b 2;law a(a(x,x),x)-b(x,b(x,x));");
        x.space(2);
        x.table(0, "\1\0\0\1\0\1\0\1");
        x.sum("a(x,x)-b(x,x)");
        x.sum("3 a(x,x)+b(x,x)");
        x.sum("?");
        x.type("0123456");
        String before = x.state();
        for (int k : new int[] {-1, 2, Integer.MIN_VALUE, Integer.MAX_VALUE}) {
            S.due("term throws", x.termThrows(k), true);
        }
        for (int n : new int[] {0, 6, 7, 8, -1, Integer.MIN_VALUE, Integer.MAX_VALUE}) {
            S.due("undone throws", x.undoneThrows(n), true);
        }
        S.due("state", x.state(), before);
        S.due("fault", x.fault(), 1);
        S.due("tape", x.count(5), 7);
        S.due("undo", x.undo(), 2);
        S.due("the sum ahead", x.show(), "96 b(x,x) + 1 a(x,x)");
        S.due("undo", x.undo(), 0);
        S.due("undo", x.undo(), -1);
    }
}
