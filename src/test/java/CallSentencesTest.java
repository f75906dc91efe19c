/**
 * The sentences under the headings of promises 1 to 36: for each one that names a boundary (too
 * small, too large, empty, full, a refused call) a test of its own. What is due is found by hand.
 */
public final class CallSentencesTest {
    private static final Sentences S = new Sentences();
    private static final String ASSOCIATIVE = "mod 7;act m 2;law m(m(x,x),x)-m(x,m(x,x));";
    private static final String SEVEN = "m(x,m(x,m(x,m(x,m(x,m(x,x))))))";
    private static final int[] OUTSIDE_1_TO_7 = {0, 8, -1, 9, 10, Integer.MIN_VALUE, Integer.MAX_VALUE};

    public static void main(String[] args) {
        newObject();
        calls();
        feed();
        end();
        world();
        worldStays();
        fault();
        act();
        law();
        take();
        trees();
        sum();
        leaves();
        term();
        termAt();
        reduce();
        size();
        normalAt();
        bare();
        closed();
        plug();
        plugRefused();
        times();
        add();
        undo();
        undoOfEach();
        undoThenMake();
        dual();
        undone();
        koszul();
        layered();
        map();
        mapRefused();
        broken();
        space();
        table();
        holds();
        done();
        drawn();
        image();
        restore();
        restoreLeaves();
        count();
        int[] all = new int[36];
        for (int i = 0; i < all.length; i++) {
            all[i] = i + 1;
        }
        S.finish(all);
    }

    private static void newObject() {
        S.promise(1, "A WORLD by 97 without ACTS; an empty tape.");
        Probe x = new Probe();
        S.due("P", x.count(0), 97);
        S.due("acts", x.count(1), 0);
        S.due("laws", x.count(2), 0);
        S.due("terms", x.count(3), 0);
        S.due("ways", x.count(4), 1);
        S.due("tape", x.count(5), 0);
        S.due("no act", x.act(0), -1);
        S.due("no law", x.law(0, 0), -1);
        S.due("a leaf is a tree", x.trees(1), 1);
        S.due("no other tree", x.trees(2), 0);
        S.due("it is bare", x.bare(1), 1);
        S.due("and normal", x.size(1), 1);
        S.due("nothing is kept in 0", x.restore(0), false);
        S.due("nothing is kept in 1", x.restore(1), false);
        S.due("the empty tape is no sum", x.sum(), -1);
        S.due("it is a world", x.world(), 0);
        S.opening(1, "public static final int NONE = -1;");
        S.due("NONE", LeafWorlds.NONE, -1);
    }

    private static void calls() {
        S.opening(1, "An object is used for at most 512 calls after it has been made");
        Probe x = Probe.in("act a 2;act b 4;law a(a(x,x),x)-a(x,a(x,x));");
        int rounds = 0;
        while (x.callsLeft() > 8) {
            S.due("sum in round " + rounds, x.sum("a(a(x,x),x)"), 1);
            S.due("reduced in round " + rounds, x.reduce(), 1);
            rounds++;
        }
        // Rows of x and b's under a: of b's with 4 leaves alone 1, of 5 leaves 4; so 4 + 2 + 1.
        while (x.callsLeft() > 1) {
            S.due("5 leaves", x.size(5), 7);
        }
        S.due("the 512th call", x.termAt(0, 2), 'x');
    }

    private static void feed() {
        S.promise(2, "Twenty bytes come behind the tape, of each number the highest first: how many it has");
        Probe x = new Probe();
        S.due("on an empty tape", x.feed(0x61637420, 0x6d20333b, 0x61637420, 0x6e20343b, 0), 20);
        x.end(16);
        S.due("behind 16 bytes", x.feed(0x6d6f6420, 0x3133303b, 0x20202020, 0x20202020, 0x20202020), 36);
        x.end(23);
        S.due("behind 23 bytes", x.feed(0x3b202020, 0x0a0a0a0a, 0x20202020, 0x20202020, 0x20202020), 43);
        // "act m 3;act n 4;mod 130" and, cut off and put again, ";": 130 has three digits.
        S.due("read in this order", x.world(), -1 - 20);
        S.due("three digits", x.fault(), 1);
        x.feed(0x61637420, 0x6d20333b, 0x61637420, 0x6e20343b, 0);
        x.end(16);
        S.due("read", x.world(), 2);
        S.due("3 entries", x.act(0), 3);
        S.due("4 entries", x.act(1), 4);
        // A byte above 127, of a number below 0: 255 by 97 is 61.
        x.world("act m 2;");
        x.space(1);
        x.feed(0xff000000, -1, Integer.MIN_VALUE, Integer.MAX_VALUE, 0);
        x.end(1);
        x.table(0);
        x.sum("m(x,x)");
        S.due("255", x.done(0, "\0\0"), 61);
        S.promise(2, "NONE, and none come, if it would have more than 940");
        x = new Probe();
        for (int i = 1; i <= 47; i++) {
            S.due("feed " + i, x.feed(0, 0, 0, 0, 0), 20 * i);
        }
        S.due("960", x.feed(0x20202020, 0x20202020, 0x20202020, 0x20202020, 0x20202020), -1);
        S.due("none came", x.count(5), 940);
        x.end(939);
        S.due("959", x.feed(0, 0, 0, 0, 0), -1);
        x.end(921);
        S.due("941", x.feed(0, 0, 0, 0, 0), -1);
        S.due("none came", x.count(5), 921);
        x.end(920);
        S.due("940", x.feed(0, 0, 0, 0, 0), 940);
        S.due("960 again", x.feed(0, 0, 0, 0, 0), -1);
        x.world();
        S.due("on the tape emptied", x.feed(0, 0, 0, 0, 0), 20);
    }

    private static void end() {
        S.promise(3, "The tape has its first n bytes alone: true");
        Probe x = new Probe();
        S.due("0 of none", x.end(0), true);
        x.type("mod 5;mod 7;");
        S.due("all", x.end(12), true);
        S.due("its bytes", x.count(5), 12);
        S.due("the first half", x.end(6), true);
        S.due("its bytes", x.count(5), 6);
        S.due("told", x.world(), 1);
        S.due("the first half was told", x.count(0), 5);
        x.type("mod 5;mod 7;");
        S.due("none", x.end(0), true);
        S.due("its bytes", x.count(5), 0);
        S.promise(3, "false, if it has not so many, or n is below 0");
        S.due("1 of none", x.end(1), false);
        S.due("-1 of none", x.end(-1), false);
        x.type("mod 5;");
        S.due("7 of 6", x.end(7), false);
        S.due("940 of 6", x.end(940), false);
        S.due("-1", x.end(-1), false);
        S.due("the least", x.end(Integer.MIN_VALUE), false);
        S.due("the greatest", x.end(Integer.MAX_VALUE), false);
        S.due("it stays", x.count(5), 6);
        x.end(3);
        S.due("what was cut off is gone", x.end(6), false);
    }

    private static void world() {
        S.promise(4, "The tape (empty then, here and below) is the WORLD now: how many LINES");
        Probe x = new Probe();
        S.due("no line", x.world(""), 0);
        S.due("one", x.world("mod 2;"), 1);
        S.due("22, as many as there can be", x.world("mod 2;act a 2;act b 2;act c 2;" + "law a(x,x);".repeat(18)), 22);
        S.due("tape behind it", x.count(5), 0);
        S.due("laws", x.count(2), 18);
        S.due("then no line", x.world(), 0);
        S.due("P", x.count(0), 97);
        S.due("acts", x.count(1), 0);
        S.due("laws", x.count(2), 0);
        x.world("mod 2;mod 2;");
        S.due("tape behind a fault", x.count(5), 0);
        x.world("act m 2;");
        x.image(0);
        for (String text : new String[] {"m(x,x)", "m(x", ""}) {
            x.sum(text);
            S.due("tape behind sum " + text, x.count(5), 0);
        }
        for (String text : new String[] {"x", "q", SEVEN, ""}) {
            x.plug(0, text);
            S.due("tape behind plug " + text, x.count(5), 0);
            x.plug(9, text);
            S.due("tape behind plug " + text, x.count(5), 0);
        }
        for (int k = -1; k <= 2; k++) {
            x.map(k, "m=m(x,x);");
            S.due("tape behind map " + k, x.count(5), 0);
            x.map(k, "q");
            S.due("tape behind map " + k, x.count(5), 0);
            x.table(k, "\1");
            S.due("tape behind table " + k, x.count(5), 0);
            x.done(k, "\0\0");
            S.due("tape behind done " + k, x.count(5), 0);
        }
        x.table(0, "\1\1");
        S.due("tape behind a table that is too long", x.count(5), 0);
    }

    private static void worldStays() {
        S.promise(4, "-1 less the place of a FAULT: it stays");
        Probe x = Probe.in(ASSOCIATIVE);
        x.space(2);
        x.table(0, "\1\0\0\1\0\1\6\0");
        x.sum("2 m(x,m(x,x))");
        x.times(2);
        String before = x.state();
        S.due("a fault at the first byte", x.world("Q"), -1);
        S.due("it stays", x.state(), before);
        S.due("a fault at the end", x.world("mod 3;act n 3;law n(x,x,x)"), -27);
        S.due("it stays", x.state(), before);
        S.due("a fault at 900", x.world("act k 4;" + " ".repeat(900)), -901);
        S.due("it stays", x.state(), before);
        S.due("its trees", x.tree(0), "m(x,m(x,x))");
        S.due("its sizes", x.size(7), 1);
        S.due("its tables", x.done(1, "\1\1\1"), 3);
        S.due("what is kept for undo stays", x.undo(), 1);
        S.due("its number", x.term(0), 2);
        S.terms(4, "0 of 1 LEAF at first and in a new WORLD");
        S.due("a new one", x.world(ASSOCIATIVE), 3);
        S.due("leaves", x.leaves(), 1);
        S.due("terms", x.count(3), 0);
    }

    private static void fault() {
        S.promise(5, "The kind of the FAULT of the latest world(), sum(), plug(), map(); 0 without one and ahead of any.");
        Probe x = new Probe();
        S.due("ahead of any", x.fault(), 0);
        x.trees(0);
        S.due("still", x.fault(), 0);
        String[] texts = {"Q", "mod 4;", "law z;", "act a 2;act b 2;act c 2;act d 2;"};
        for (int kind = 1; kind <= 4; kind++) {
            x.world(texts[kind - 1]);
            S.due("of world", x.fault(), kind);
        }
        x.world("act m 2;");
        S.due("of a world without one", x.fault(), 0);
        x.image(0);
        String eight = "m(x," + SEVEN + ")";
        x.sum("Q");
        S.due("of sum", x.fault(), 1);
        x.sum("z");
        S.due("of sum", x.fault(), 3);
        x.sum(eight);
        S.due("of sum", x.fault(), 4);
        x.sum("x");
        S.due("of a sum without one", x.fault(), 0);
        x.plug(0, "Q");
        S.due("of plug", x.fault(), 1);
        x.plug(0, "x+m(x,x)");
        S.due("of plug", x.fault(), 3);
        x.plug(0, eight);
        S.due("of plug", x.fault(), 4);
        x.plug(0, "x");
        S.due("of a plug without one", x.fault(), 0);
        x.map(0, "m=m(x,x)");
        S.due("of map", x.fault(), 1);
        x.map(0, "");
        S.due("of map", x.fault(), 3);
        x.map(0, "m=" + eight);
        S.due("of map", x.fault(), 4);
        x.map(0, "m=m(x,x);");
        S.due("of a map without one", x.fault(), 0);
        faultOfRefused();
    }

    private static void faultOfRefused() {
        Probe x = Probe.in("act m 2;");
        x.sum("Q");
        x.plug(5, "x");
        S.due("of a plug where no leaf is", x.fault(), 0);
        x.sum("z");
        x.map(0, "m=m(x,x);");
        S.due("of a map where nothing is kept", x.fault(), 0);
        x.sum("z");
        x.plug(9, "Q");
        S.due("of a plug with both", x.fault(), 1);
        x.sum("z");
        x.type("\0");
        x.table(0);
        x.done(0);
        x.reduce();
        x.times(2);
        x.undo();
        x.image(0);
        x.restore(0);
        x.dual();
        x.end(-1);
        S.due("other calls leave it", x.fault(), 3);
    }

    private static void act() {
        S.promise(6, "Entries of ACT a; NONE: no such one.");
        Probe x = Probe.in("act a 4;act b 2;act c 3;");
        S.due("act 0", x.act(0), 4);
        S.due("act 1", x.act(1), 2);
        S.due("act 2", x.act(2), 3);
        S.due("act 3", x.act(3), -1);
        S.due("act -1", x.act(-1), -1);
        for (int a : Sentences.wild()) {
            S.due("act " + a, x.act(a), -1);
        }
        x.world("act a 2;");
        S.due("act 1 is gone", x.act(1), -1);
        S.due("act 0", x.act(0), 2);
        x.world("");
        S.due("act 0 is gone", x.act(0), -1);
    }

    private static void law() {
        S.promise(7, "Of LAW l: 0 LEAVES, 1 TERMS that are not 0. NONE: no such ones.");
        Probe x = Probe.in("mod 5;act m 2;act n 2;law 5 m(x,x);law m(x,n(x,x))+2 m(x,n(x,x))+0 n(x,n(x,x))-n(n(x,x),x);law "
            + SEVEN + ";");
        S.due("leaves", x.law(0, 0), 2);
        S.due("no term", x.law(0, 1), 0);
        S.due("leaves", x.law(1, 0), 3);
        S.due("terms that are not 0", x.law(1, 1), 2);
        S.due("leaves", x.law(2, 0), 7);
        S.due("one term", x.law(2, 1), 1);
        for (int what : new int[] {-1, 2, 3, Integer.MIN_VALUE, Integer.MAX_VALUE}) {
            S.due("law 0, " + what, x.law(0, what), -1);
        }
        for (int what = 0; what < 2; what++) {
            S.due("law 3", x.law(3, what), -1);
            S.due("law -1", x.law(-1, what), -1);
            S.due("law 18", x.law(18, what), -1);
            for (int l : Sentences.wild()) {
                S.due("law " + l, x.law(l, what), -1);
            }
        }
        x.world("act m 2;");
        S.due("gone", x.law(0, 0), -1);
    }

    private static void take() {
        S.promise(8, "LAW l is the SUM at hand: how many TERMS; NONE: no such one.");
        Probe x = Probe.in("mod 5;act m 2;law m(x,m(x,x))-2 m(m(x,x),x);law 5 m(x,x);");
        S.due("law 0", x.take(0), 2);
        S.due("at hand", x.show(), "3 m(m(x,x),x) + 1 m(x,m(x,x))");
        S.due("law 1", x.take(1), 0);
        S.due("0 of 2 leaves", x.leaves(), 2);
        x.take(0);
        String before = x.state();
        S.due("law 2", x.take(2), -1);
        S.due("law -1", x.take(-1), -1);
        for (int l : Sentences.wild()) {
            S.due("law " + l, x.take(l), -1);
        }
        S.due("it stays", x.state(), before);
        S.due("three were taken", x.undos(), 3);
        S.due("no laws", new Probe().take(0), -1);
    }

    private static void trees() {
        S.promise(9, "How many TREES of n LEAVES (1 to 10) there are; NONE: not as told.");
        long[] twos = {1, 1, 2, 5, 14, 42, 132, 429, 1430, 4862};
        long[] fours = {1, 0, 0, 1, 0, 0, 4, 0, 0, 22};
        Probe two = Probe.in("act m 2;law m(x,x);");
        Probe three = Probe.in("act a 2;act b 2;act c 2;");
        Probe four = Probe.in("act q 4;");
        Probe none = new Probe();
        long power = 1;
        for (int n = 1; n <= 10; n++) {
            S.due("of twos", two.trees(n), twos[n - 1]);
            // With three acts of two entries each of the n - 1 acts of a tree may be any of them.
            S.due("of three twos", three.trees(n), twos[n - 1] * power);
            S.due("of fours", four.trees(n), fours[n - 1]);
            S.due("without acts", none.trees(n), n == 1 ? 1 : 0);
            power *= 3;
        }
        for (int n : new int[] {0, 11, -1, 12, Integer.MIN_VALUE, Integer.MAX_VALUE}) {
            S.due("of " + n, two.trees(n), -1);
        }
        S.due("of twos and fours", Probe.in("act m 2;act q 4;").trees(7), 256);
        S.due("of twos and threes", Probe.in("act m 2;act t 3;").trees(5), 38);
    }

    private static void sum() {
        S.promise(10, "The tape's SUM (at most 400 bytes) is at hand: how many TERMS; -1 less the place of a FAULT: it stays.");
        Probe x = Probe.in(ASSOCIATIVE);
        S.due("400 bytes", x.sum("-2 m(x,x)" + " ".repeat(391)), 1);
        S.due("at hand", x.show(), "5 m(x,x)");
        String before = x.state();
        S.due("401 bytes", x.sum("-3 m(x,x)" + " ".repeat(392)), -401);
        S.due("it stays", x.state(), before);
        S.due("no byte", x.sum(""), -1);
        S.due("a fault behind a term", x.sum("x+y"), -3);
        S.due("it stays", x.state(), before);
        S.due("a fault keeps nothing", x.undo(), 0);
        S.due("one was kept", x.undo(), -1);
        // 200 terms of one tree, 57 trees in 399 bytes.
        S.due("terms that are one", x.sum("x+".repeat(199) + "x"), 1);
        S.due("200 by 7", x.show(), "4 x");
        S.due("terms that are 0", x.sum("m(x,x)+".repeat(55) + "m(x,x)"), 0);
        S.due("of 2 leaves", x.leaves(), 2);
    }

    private static void leaves() {
        S.promise(11, "LEAVES of the SUM at hand.");
        Probe x = new Probe();
        S.due("at first", x.leaves(), 1);
        x.world("act m 2;law 0 m(x,m(x,x));");
        x.sum(SEVEN);
        S.due("7", x.leaves(), 7);
        x.times(0);
        S.due("7 of 0", x.leaves(), 7);
        x.take(0);
        S.due("3 of a law that is 0", x.leaves(), 3);
        x.sum("x-x");
        S.due("1 of 0", x.leaves(), 1);
        x.drawn(5, 1);
        S.due("5 drawn", x.leaves(), 5);
        x.plug(4, "m(x,m(x,x))");
        S.due("3 in 5", x.leaves(), 7);
    }

    private static void term() {
        S.promise(12, "The number of TERM k of it. NoSuchElementException: no such one.");
        Probe x = Probe.in("act a 2;act b 2;act c 2;");
        S.due("0 of 0 terms", x.termThrows(0), true);
        S.due("-1 of 0 terms", x.termThrows(-1), true);
        x.sum("a(x,x)-b(x,x)+96 c(x,x)");
        S.due("term 0", x.term(0), 96);
        S.due("term 1", x.term(1), 96);
        S.due("term 2", x.term(2), 1);
        S.due("term 3", x.termThrows(3), true);
        S.due("term -1", x.termThrows(-1), true);
        for (int k : Sentences.wild()) {
            S.due("term " + k, x.termThrows(k), true);
        }
        x.sum("5 c(x,x)");
        S.due("term 1 is gone", x.termThrows(1), true);
        S.due("term 0", x.term(0), 5);
    }

    private static void termAt() {
        S.promise(13, "Byte i of the TREE of TERM k as a text without blanks; NONE: no such ones.");
        Probe x = Probe.in("act ab 2;act q 4;");
        S.due("of 0 terms", x.termAt(0, 0), -1);
        x.sum(" ab ( x , q ( x , x , x , x ) ) + 2 q(ab(x,x),x,x,x) ");
        S.due("term 0", x.tree(0), "q(ab(x,x),x,x,x)");
        S.due("term 1", x.tree(1), "ab(x,q(x,x,x,x))");
        S.due("byte 0", x.termAt(1, 0), 'a');
        S.due("the last byte", x.termAt(1, 15), ')');
        S.due("behind it", x.termAt(1, 16), -1);
        S.due("byte -1", x.termAt(1, -1), -1);
        S.due("term 2", x.termAt(2, 0), -1);
        S.due("term -1", x.termAt(-1, 0), -1);
        for (int wild : Sentences.wild()) {
            S.due("byte " + wild, x.termAt(0, wild), -1);
            S.due("term " + wild, x.termAt(wild, 0), -1);
        }
        x.sum("x");
        S.due("a leaf", x.termAt(0, 0), 'x');
        S.due("behind a leaf", x.termAt(0, 1), -1);
        // Six acts of six letters, seven leaves: the longest text has 61 bytes.
        x.world("act abcdef 2;");
        x.sum(SEVEN.replace("m", "abcdef"));
        S.due("the longest", x.tree(0), SEVEN.replace("m", "abcdef"));
        S.due("its last byte", x.termAt(0, 60), ')');
        S.due("behind it", x.termAt(0, 61), -1);
    }

    private static void reduce() {
        S.promise(14, "The SUM becomes NORMAL: how many TERMS; NONE: TOO MANY (it stays).");
        Probe x = new Probe();
        S.due("0 of 1 leaf", x.reduce(), 0);
        S.due("without acts", x.sum("3 x"), 1);
        S.due("a leaf", x.reduce(), 1);
        S.due("it", x.show(), "3 x");
        x.world(ASSOCIATIVE);
        x.sum("m(m(m(m(m(m(x,x),x),x),x),x),x)");
        S.due("7 leaves", x.reduce(), 1);
        S.due("it", x.show(), "1 " + SEVEN);
        S.due("normal ones stay", x.reduce(), 1);
        x.sum("m(m(x,x),x)-m(x,m(x,x))");
        S.due("to 0", x.reduce(), 0);
        S.due("of 3 leaves", x.leaves(), 3);
        x.world("act a 2;act b 2;law a(x,x);law b(x,x);");
        x.sum("a(a(x,x),a(x,a(x,x)))");
        S.due("5 leaves", x.reduce(), 0);
        x.sum("2 a(a(x,x),a(x,a(x,b(x,x))))");
        String before = x.state();
        S.due("6 leaves of two acts", x.reduce(), -1);
        S.due("it stays", x.state(), before);
        x.times(0);
        S.due("0 of 6 leaves", x.reduce(), -1);
        S.due("refused ones keep nothing", x.undo(), 1);
    }

    private static void size() {
        S.promise(15, "SIZE of n LEAVES; NONE: not as told, TOO MANY.");
        Probe x = Probe.in(ASSOCIATIVE);
        S.due("of 1", x.size(1), 1);
        S.due("of 7", x.size(7), 1);
        for (int n : OUTSIDE_1_TO_7) {
            S.due("of " + n, x.size(n), -1);
        }
        x.world("act a 2;act b 2;");
        S.due("of 5: 224 trees", x.size(5), 224);
        S.due("of 6: 1344 trees", x.size(6), -1);
        S.due("of 7: more", x.size(7), -1);
        S.due("of 1", x.size(1), 1);
        x.world("");
        S.due("without acts", x.size(2), 0);
    }

    private static void normalAt() {
        S.promise(16, "Byte i of the k-th NORMAL TREE (rising) of n LEAVES, without blanks; NONE: no such ones, TOO MANY.");
        Probe x = Probe.in("act m 2;law m(m(x,x),m(x,x));");
        S.due("four of 4 leaves", x.size(4), 4);
        S.due("the least", x.normal(4, 0), "m(x,m(x,m(x,x)))");
        S.due("then", x.normal(4, 1), "m(x,m(m(x,x),x))");
        S.due("one is not normal", x.normal(4, 2), "m(m(x,m(x,x)),x)");
        S.due("the greatest", x.normal(4, 3), "m(m(m(x,x),x),x)");
        S.due("k 4", x.normalAt(4, 4, 0), -1);
        S.due("k -1", x.normalAt(4, -1, 0), -1);
        S.due("the last byte", x.normalAt(4, 3, 15), ')');
        S.due("behind it", x.normalAt(4, 3, 16), -1);
        S.due("byte -1", x.normalAt(4, 3, -1), -1);
        S.due("the leaf", x.normal(1, 0), "x");
        S.due("no second one", x.normalAt(1, 1, 0), -1);
        for (int wild : Sentences.wild()) {
            S.due("k " + wild, x.normalAt(4, wild, 0), -1);
            S.due("byte " + wild, x.normalAt(4, 0, wild), -1);
        }
        for (int n : OUTSIDE_1_TO_7) {
            S.due("n " + n, x.normalAt(n, 0, 0), -1);
        }
        x.world("act a 2;act b 2;");
        S.due("of 5", x.normalAt(5, 223, 0), 'b');
        S.due("of 5, k 224", x.normalAt(5, 224, 0), -1);
        S.due("of 6", x.normalAt(6, 0, 0), -1);
        x.world("act t 3;");
        S.due("no trees", x.normalAt(2, 0, 0), -1);
    }

    private static void bare() {
        S.promise(17, "BARE TREES of n LEAVES; NONE: not as told, TOO MANY.");
        Probe x = Probe.in("act a 2;act b 2;law b(x,x);");
        S.due("of 1", x.bare(1), 1);
        S.due("of 5", x.bare(5), 14);
        S.due("of 6", x.bare(6), -1);
        for (int n : OUTSIDE_1_TO_7) {
            S.due("of " + n, x.bare(n), -1);
        }
        x.world("act m 2;");
        S.due("of 7", x.bare(7), 132);
        x.world("act t 3;");
        S.due("where no trees are", x.bare(2), 0);
        S.due("of 7", x.bare(7), 12);
    }

    private static void closed() {
        S.promise(18, "The least number of LEAVES up to n in which it is not CLOSED (TOO MANY: none from there on); NONE: it is CLOSED; -2: n below 1 or above 7.");
        Probe x = Probe.in(ASSOCIATIVE);
        S.due("to 1", x.closed(1), -1);
        S.due("to 7", x.closed(7), -1);
        for (int n : OUTSIDE_1_TO_7) {
            S.due("to " + n, x.closed(n), -2);
        }
        x.world("act m 2;law m(m(x,x),x)+m(x,m(x,x));");
        S.due("to 3", x.closed(3), -1);
        for (int n = 4; n <= 7; n++) {
            S.due("to " + n, x.closed(n), 4);
        }
        S.due("to 8", x.closed(8), -2);
        // The same two laws of 6 leaves, where one act has 42 trees, and where two have 1344.
        String left = "m(m(m(m(m(x,x),x),x),x),x)";
        String laws = "law " + left + ";law " + left + "-m(x,m(x,m(x,m(x,m(x,x)))));";
        x.world("act m 2;" + laws);
        S.due("to 5", x.closed(5), -1);
        S.due("to 6", x.closed(6), 6);
        S.due("to 7", x.closed(7), 6);
        x.world("act m 2;act n 2;" + laws);
        S.due("too many in 6", x.closed(6), -1);
        S.due("too many in 7", x.closed(7), -1);
        x.world("act m 2;act n 2;law m(m(x,x),x)+m(x,m(x,x));" + laws);
        S.due("4 is ahead of too many", x.closed(7), 4);
        S.due("-2 with too many", x.closed(8), -2);
    }

    private static void plug() {
        S.promise(19, "The tape's SUM (at most 400 bytes) is put in LEAF i (from 0) of the SUM at hand, TERM by TERM: how many TERMS");
        Probe x = Probe.in("mod 5;act m 2;act t 3;");
        x.sum("2 t(x,x,x)+m(x,m(x,x))");
        S.due("leaf 0, 400 bytes", x.plug(0, "3 m(x,x)" + " ".repeat(392)), 2);
        S.due("plugged", x.show(), "1 t(m(x,x),x,x) + 3 m(m(x,x),m(x,x))");
        S.due("the last leaf", x.plug(3, "m(x,x)"), 2);
        S.due("plugged", x.show(), "1 t(m(x,x),x,m(x,x)) + 3 m(m(x,x),m(x,m(x,x)))");
        S.due("a leaf in a leaf", x.plug(2, "4 x"), 2);
        S.due("plugged", x.show(), "4 t(m(x,x),x,m(x,x)) + 2 m(m(x,x),m(x,m(x,x)))");
        S.due("to 7 leaves", x.plug(4, "t(x,x,x)-m(x,m(x,x))"), 4);
        S.due("leaves", x.leaves(), 7);
        S.due("0 in a leaf", x.plug(6, "x-x"), 0);
        S.due("leaves", x.leaves(), 7);
        S.due("a leaf of 0", x.plug(6, "x"), 0);
        x.world("mod 5;act m 2;act t 3;");
        S.due("in 0 of 1 leaf", x.plug(0, "m(x,x)"), 0);
        S.due("leaves", x.leaves(), 2);
        x.sum("x");
        S.due("in a leaf alone", x.plug(0, "m(x,m(x,x))-t(x,x,x)"), 2);
        // 1001 is 7 by 13 by 11.
        x.world("act a 2;act b 2;act c 2;");
        String three = "a(x,x)+b(x,x)+c(x,x)";
        String eleven = "a(x,a(x,x))+a(x,b(x,x))+a(x,c(x,x))+b(x,a(x,x))+b(x,b(x,x))+b(x,c(x,x))+c(x,a(x,x))+c(x,b(x,x))+c(x,c(x,x))+a(a(x,x),x)+b(a(x,x),x)";
        S.due("three", x.sum(three), 3);
        S.due("27 and more", x.plug(0, three), 9);
        S.due("99", x.plug(0, eleven), 99);
        S.due("99 by 11 is above 1000", x.plug(0, eleven), -1001);
        S.due("it stays", x.count(3), 99);
        S.due("99 by 10", x.plug(0, eleven.substring(0, eleven.length() - 12)), 990);
        x.sum(eleven.substring(0, 7 * 12 - 1));
        S.due("7 by 13", x.plug(0, eleven + "+c(a(x,x),x)+a(b(x,x),x)"), 91);
        S.due("91 by 11 is 1001", x.plug(0, eleven), -1001);
        S.due("it stays", x.count(3), 91);
        S.due("91 by 10", x.plug(0, eleven.substring(0, eleven.length() - 12)), 910);
    }

    private static void plugRefused() {
        S.promise(19, "-1 less the place of a FAULT; -1000: no such LEAF; -1001: more than 7 LEAVES, or TERMS times TERMS above 1000 (it stays, all three; looked at in this order, behind FAULTS)");
        Probe x = Probe.in("mod 7;act m 2;");
        x.sum("3 m(x,m(x,x))-m(m(x,x),x)");
        String before = x.state();
        S.due("leaf 3", x.plug(3, "x"), -1000);
        S.due("leaf -1", x.plug(-1, "x"), -1000);
        for (int i : Sentences.wild()) {
            S.due("leaf " + i, x.plug(i, "x"), -1000);
        }
        String six = "m(x,m(x,m(x,m(x,m(x,x)))))";
        S.due("8 leaves", x.plug(0, six), -1001);
        S.due("9 leaves", x.plug(2, SEVEN), -1001);
        S.due("8 leaves of 0", x.plug(2, six + "-" + six), -1001);
        S.due("no such leaf is ahead of 8 leaves", x.plug(3, six), -1000);
        S.due("a fault is ahead of both", x.plug(3, six + "Q"), -27);
        S.due("its kind", x.fault(), 1);
        S.due("401 bytes are a fault", x.plug(3, "x" + " ".repeat(400)), -401);
        S.due("no byte is a fault", x.plug(3, ""), -1);
        S.due("it stays", x.state(), before);
        S.due("7 leaves", x.plug(2, "m(x,m(x,m(x,m(x,x))))"), 2);
        S.due("refused ones keep nothing", x.undos(), 2);
        x.world("act a 2;act b 2;act c 2;");
        String ten = "a(x,a(x,x))+a(x,b(x,x))+a(x,c(x,x))+b(x,a(x,x))+b(x,b(x,x))+b(x,c(x,x))+c(x,a(x,x))+c(x,b(x,x))+c(x,c(x,x))+a(a(x,x),x)";
        x.sum(ten);
        x.plug(0, ten);
        S.due("100 by 10 is 1000", x.plug(0, ten), 1000);
        S.due("1000 by 1", x.plug(6, "2 x"), 1000);
        S.due("1000 by 0", x.plug(6, "x-x"), 0);
        x.undo();
        S.due("no such leaf is ahead of 10000 terms", x.plug(7, ten), -1000);
        S.due("9 leaves and 10000 terms", x.plug(0, ten), -1001);
        S.due("it stays", x.count(3), 1000);
    }

    private static void times() {
        S.promise(20, "The SUM times a number (-999 to 999): how many TERMS; NONE: not as told.");
        Probe x = Probe.in("mod 7;act m 2;act n 2;");
        x.sum("m(x,x)+3 n(x,x)");
        S.due("999 is 5", x.times(999), 2);
        S.due("times 5", x.show(), "1 n(x,x) + 5 m(x,x)");
        S.due("-999 is 2", x.times(-999), 2);
        S.due("times 2", x.show(), "2 n(x,x) + 3 m(x,x)");
        String before = x.state();
        S.due("1000", x.times(1000), -1);
        S.due("-1000", x.times(-1000), -1);
        S.due("the least", x.times(Integer.MIN_VALUE), -1);
        S.due("the greatest", x.times(Integer.MAX_VALUE), -1);
        S.due("it stays", x.state(), before);
        S.due("7 is 0", x.times(7), 0);
        S.due("of 2 leaves", x.leaves(), 2);
        S.due("0 times 999", x.times(999), 0);
        S.due("kept: a sum, and four times", x.undos(), 5);
        x.sum("m(x,x)");
        S.due("0", x.times(0), 0);
        x.world("act m 2;");
        S.due("times 999 of 0 at first", x.times(999), 0);
        x.sum("96 m(x,x)");
        x.times(999);
        S.due("-999 by 97", x.term(0), 68);
    }

    private static void add() {
        S.promise(21, "LAW l times a number is added to it: how many TERMS; NONE: no such one, another number of LEAVES, not as told.");
        Probe x = Probe.in("mod 7;act m 2;law m(m(x,x),x)-2 m(x,m(x,x));law m(x,x);law 0 m(x,m(x,x));");
        S.due("another number of leaves", x.add(0, 1), -1);
        x.sum("m(m(x,x),x)");
        S.due("999 is 5", x.add(0, 999), 2);
        S.due("added", x.show(), "6 m(m(x,x),x) + 4 m(x,m(x,x))");
        S.due("-999 is 2", x.add(0, -999), 1);
        S.due("added", x.show(), "1 m(m(x,x),x)");
        S.due("0", x.add(0, 0), 1);
        S.due("a law that is 0", x.add(2, 5), 1);
        S.due("kept for each", x.undos(), 5);
        x.sum("m(m(x,x),x)");
        String before = x.state();
        S.due("law 1 has two leaves", x.add(1, 1), -1);
        S.due("so with 0", x.add(1, 0), -1);
        S.due("law 3", x.add(3, 1), -1);
        S.due("law -1", x.add(-1, 1), -1);
        for (int wild : Sentences.wild()) {
            S.due("law " + wild, x.add(wild, 1), -1);
        }
        S.due("1000", x.add(0, 1000), -1);
        S.due("-1000", x.add(0, -1000), -1);
        S.due("the least", x.add(0, Integer.MIN_VALUE), -1);
        S.due("the greatest", x.add(0, Integer.MAX_VALUE), -1);
        S.due("it stays", x.state(), before);
        S.due("refused ones keep nothing", x.undos(), 1);
        x.sum("2 m(x,m(x,x))-m(m(x,x),x)");
        S.due("to 0", x.add(0, 1), 0);
        S.due("of 3 leaves", x.leaves(), 3);
    }

    private static void undo() {
        S.promise(22, "8 such are kept");
        Probe x = new Probe();
        S.due("nothing at first", x.undo(), -1);
        for (int i = 1; i <= 12; i++) {
            x.sum(i + " x");
        }
        for (int i = 11; i >= 4; i--) {
            S.due("undo to " + i, x.undo(), 1);
            S.due("the sum", x.show(), i + " x");
        }
        S.promise(22, "how many TERMS; NONE: nothing is kept");
        S.due("a ninth", x.undo(), -1);
        S.due("it stays", x.show(), "4 x");
        S.due("again", x.undo(), -1);
        x.sum("5 x");
        x.sum("6 x");
        S.due("goes on", x.undo(), 1);
        x.sum("7 x");
        S.due("the latest alone", x.undo(), 1);
        S.due("5 was ahead of 7", x.show(), "5 x");
        S.due("4 was ahead of 5", x.undo(), 1);
        S.due("it", x.show(), "4 x");
        S.due("nothing", x.undo(), -1);
        x = Probe.in("act m 2;");
        for (int i = 0; i < 8; i++) {
            x.sum(i % 2 == 0 ? "m(x,x)" : "x");
        }
        S.due("eight of eight", x.undos(), 8);
        S.due("as at first", x.leaves(), 1);
        S.due("0 at first", x.count(3), 0);
    }

    private static void undoOfEach() {
        S.promise(22, "The SUM is as it was ahead of the latest call that made one of it (sum(), take(), reduce(), plug(), times(), add(), drawn()");
        Probe x = Probe.in(ASSOCIATIVE);
        x.sum("m(m(x,x),x)");
        String[] sums = new String[8];
        for (int i = 0; i < 7; i++) {
            sums[i] = x.show();
            makeOne(x, i);
            S.due("a call of " + i + " makes another", x.show().equals(sums[i]), false);
        }
        refuseAll(x);
        for (int i = 6; i >= 0; i--) {
            S.due("undo of " + i, x.undo() >= 0, true);
            S.due("the sum ahead of " + i, x.show(), sums[i]);
        }
    }

    private static void undoThenMake() {
        S.promise(22, "The SUM is as it was ahead of the latest call");
        String[] due = {"5 m(m(x,x),x) + 5 m(x,m(x,x))", "3 m(x,m(x,x))", "2 m(m(x,x),x)", "3 m(m(m(x,x),x),x)"};
        for (int which = 0; which < due.length; which++) {
            Probe x = Probe.in(ASSOCIATIVE);
            x.sum("3 m(m(x,x),x)");
            x.sum("m(x,m(x,x))");
            S.due("undo", x.undo(), 1);
            makeOne(x, which);
            S.due("a call of " + which + " takes the sum that is back", x.show(), due[which]);
            S.due("undo", x.undo(), 1);
            S.due("the sum ahead", x.show(), "3 m(m(x,x),x)");
        }
    }

    /** Calls that make a sum of the one at hand, one of each kind. */
    private static void makeOne(Probe x, int which) {
        switch (which) {
            case 0 -> x.add(0, 2);
            case 1 -> x.reduce();
            case 2 -> x.times(3);
            case 3 -> x.plug(0, "m(x,x)-m(x,x)+m(x,x)");
            case 4 -> x.take(0);
            case 5 -> x.drawn(5, 1);
            default -> x.sum("2 x");
        }
    }

    private static void refuseAll(Probe x) {
        x.sum("Q");
        x.take(1);
        x.plug(0, "Q");
        x.plug(9, "x");
        x.plug(0, SEVEN + "+");
        x.times(1000);
        x.add(0, 1);
        x.drawn(8, 1);
        x.world("mod 4;");
        x.space(2);
        x.space(4);
        x.image(0);
        x.table(0);
        x.done(0);
        x.map(0);
        x.restore(1);
        x.size(7);
    }

    private static void dual() {
        S.promise(23, "The WORLD becomes its DUAL, with a SPACE of 1 way (the SUM at hand stays, nothing is kept for undo()): how many LAWS; NONE: it has none.");
        Probe x = Probe.in("mod 7;act ab 2;act c 2;law ab(c(x,x),x)-ab(x,c(x,x));");
        x.sum("2 ab(x,c(x,x))");
        x.times(2);
        x.space(2);
        x.table(0, "\0\0\0\0\0\0\0\1");
        S.due("laws", x.dual(), 7);
        S.due("laws", x.count(2), 7);
        S.due("P", x.count(0), 7);
        S.due("acts", x.count(1), 2);
        S.due("entries", x.act(0) + x.act(1), 4);
        S.due("ways", x.count(4), 1);
        S.due("the sum", x.show(), "4 ab(x,c(x,x))");
        S.due("nothing for undo", x.undo(), -1);
        S.due("it stays", x.show(), "4 ab(x,c(x,x))");
        x.times(2);
        S.due("it goes on", x.undo(), 1);
        S.due("nothing more", x.undo(), -1);
        S.due("tables are 0", x.done(0, "\0\0\0"), 0);
        x.space(2);
        S.due("in two ways too", x.done(1, "\1\1\1"), 0);
        S.due("size", x.size(3), 1);
        S.due("of nothing", new Probe().dual(), 0);
        x.world("act m 2;");
        for (int turn = 0; turn < 3; turn++) {
            S.due("all of 3 leaves are 0", x.dual(), 2);
            S.due("sizes", x.size(2) * 10 + x.size(3), 10);
            S.due("none is", x.dual(), 0);
            S.due("sizes", x.size(2) * 10 + x.size(3), 12);
        }
        x.world("mod 7;act m 2;law m(x,x);");
        x.space(3);
        x.sum("3 m(x,x)");
        x.times(2);
        String before = x.state();
        S.due("none", x.dual(), -1);
        S.due("it stays", x.state(), before);
        S.due("what is kept too", x.undos(), 2);
    }

    private static void undone() {
        S.promise(24, "The n-th number of UNDONE (1 to 7); NoSuchElementException: not as told, TOO MANY (in n or fewer LEAVES).");
        Probe x = Probe.in(ASSOCIATIVE);
        S.due("of 1", x.undone(1), 1);
        S.due("of 6", x.undone(6), -1);
        S.due("of 7", x.undone(7), 1);
        for (int n : OUTSIDE_1_TO_7) {
            S.due("of " + n, x.undoneThrows(n), true);
        }
        x.world("act a 2;act b 2;");
        S.due("of 5: 224 trees", x.undone(5), 0);
        S.due("of 6: 1344 trees", x.undoneThrows(6), true);
        S.due("of 7", x.undoneThrows(7), true);
        S.due("of 2", x.undone(2), -2);
        x.world("act t 3;act u 3;act v 3;");
        S.due("of 6", x.undone(6), 0);
        S.due("of 7: 324 trees", x.undoneThrows(7), true);
    }

    private static void koszul() {
        S.promise(25, "The least k up to n at which it is not KOSZUL (TOO MANY: none from there on); NONE: it is KOSZUL to n; -2: n below 1 or above 7, no DUAL.");
        Probe x = Probe.in("act m 2;law m(m(x,x),x)+m(x,m(x,x));");
        S.due("to 1", x.koszul(1), -1);
        S.due("to 4", x.koszul(4), -1);
        S.due("to 5", x.koszul(5), 5);
        S.due("to 7", x.koszul(7), 5);
        for (int n : OUTSIDE_1_TO_7) {
            S.due("to " + n, x.koszul(n), -2);
        }
        S.due("the world stays", x.count(2), 1);
        x.sum("x");
        x.space(2);
        x.koszul(7);
        S.due("the sum stays", x.show(), "1 x");
        S.due("the space stays", x.count(4), 2);
        S.due("what is kept stays", x.undo(), 0);
        x.world("act a 2;act b 2;");
        S.due("too many in 6", x.koszul(7), -1);
        S.due("8 with too many", x.koszul(8), -2);
        x.world("act t 3;");
        S.due("no dual: 3 entries", x.koszul(1), -2);
        x.world("act m 2;law m(x,x);");
        S.due("no dual: 2 leaves", x.koszul(1), -2);
        x.world("act m 2;law " + SEVEN + ";");
        S.due("no dual: 7 leaves", x.koszul(3), -2);
        x.world("");
        S.due("no acts", x.koszul(7), -1);
        S.due("no acts, 0", x.koszul(0), -2);
    }

    private static void layered() {
        S.promise(26, "LAYERED, this WORLD over the one kept in place k, of n LEAVES (1 to 7); NONE: not as told, TOO MANY (in n or fewer LEAVES), nothing is kept there.");
        Probe x = Probe.in(ASSOCIATIVE);
        S.due("nothing in 0", x.layered(0, 1), -1);
        S.due("nothing in 1", x.layered(1, 1), -1);
        x.image(1);
        S.due("nothing in 0 still", x.layered(0, 1), -1);
        S.due("of 1", x.layered(1, 1), 1);
        S.due("of 7", x.layered(1, 7), 64);
        for (int n : OUTSIDE_1_TO_7) {
            S.due("of " + n, x.layered(1, n), -1);
        }
        for (int k : new int[] {-1, 2, Integer.MIN_VALUE, Integer.MAX_VALUE}) {
            S.due("place " + k, x.layered(k, 1), -1);
        }
        x.world("mod 3;act a 2;act b 2;");
        x.image(0);
        S.due("unlike primes: 1 + 2 + 2 twos", x.layered(1, 2), 3);
        S.due("of 5: 224 trees here", x.layered(1, 5) > 0, true);
        S.due("of 6: 1344 trees here", x.layered(1, 6), -1);
        S.due("of 7", x.layered(1, 7), -1);
        x.restore(1);
        S.due("of 5: 224 trees there", x.layered(0, 5) > 0, true);
        S.due("of 6: 1344 trees there", x.layered(0, 6), -1);
        S.due("of 6 over itself", x.layered(1, 6), 32);
    }

    private static void map() {
        S.promise(27, "The tape's MAP into the WORLD kept in place k: how many LAWS it KEEPS; -1 less the place of a FAULT");
        Probe x = Probe.in("act k 2;law k(x,k(x,x));");
        x.image(1);
        x.world("act m 2;" + "law m(x,m(x,x));".repeat(17) + "law m(m(x,x),x);");
        S.due("17 of 18", x.map(1, "m=k(x,x);"), 17);
        S.due("all to 0", x.map(1, "m=0 k(x,x);"), 18);
        S.due("a fault", x.map(1, "m=k(x,x);;"), -10);
        S.due("its kind", x.fault(), 1);
        x.world("act m 2;law m(x,x);");
        S.due("none of one", x.map(1, "m=k(x,x);"), 0);
        x.world("act m 2;");
        S.due("none of none", x.map(1, "m=k(x,x);"), 0);
        x.world("");
        S.due("no acts", x.map(1, ""), 0);
        S.due("this world stays", x.count(1), 0);
        x.restore(1);
        S.due("that world stays", x.count(2), 1);
        S.due("into itself", x.map(1, "k=k(x,x);"), 1);
    }

    private static void mapRefused() {
        S.promise(27, "-1000: nothing is kept there, unlike primes; -1001: TOO MANY there.");
        Probe x = Probe.in("act m 2;act n 2;law m(x,m(x,m(x,m(x,x))));");
        S.due("nothing in 0", x.map(0, "m=m(x,x);n=n(x,x);"), -1000);
        S.due("nothing in 1", x.map(1, "m=m(x,x);n=n(x,x);"), -1000);
        for (int k : new int[] {-1, 2, Integer.MIN_VALUE, Integer.MAX_VALUE}) {
            S.due("place " + k, x.map(k, "m=m(x,x);n=n(x,x);"), -1000);
        }
        x.image(0);
        S.due("5 leaves: 224 trees there", x.map(0, "m=m(x,x);n=n(x,x);"), 1);
        S.due("5 leaves, not 0 there", x.map(0, "m=n(x,x);n=m(x,x);"), 0);
        x.world("act m 2;law m(x,m(x,m(x,m(x,m(x,x)))));law m(x,x);");
        S.due("6 leaves: 1344 trees there", x.map(0, "m=m(x,x);"), -1001);
        S.due("its fault", x.fault(), 0);
        S.due("a fault is told ahead", x.map(0, "m=m(x,x)"), -9);
        S.due("its kind", x.fault(), 1);
        x.world("act m 2;law m(x,m(x,m(x,m(x,x))));law m(x,x);");
        S.due("5 leaves, 0 there", x.map(0, "m=m(x,x);"), 1);
        // Too many here is nothing to it.
        x.world("act k 2;");
        x.image(1);
        x.world("act a 2;act b 2;law a(x,a(x,a(x,a(x,a(x,b(x,x))))));");
        S.due("too many here", x.map(1, "a=k(x,x);b=0 k(x,x);"), 1);
        x.world("mod 5;act m 2;law m(x,x);");
        S.due("unlike primes", x.map(0, "m=m(x,x);"), -1000);
        x.world("mod 97;act m 2;law m(x,x);");
        S.due("like primes", x.map(0, "m=m(x,x);"), 0);
    }

    private static void broken() {
        S.promise(28, "The least LAW that the latest map() that was 0 or above does not KEEP; NONE: none, or ahead of any.");
        Probe x = new Probe();
        S.due("ahead of any", x.broken(), -1);
        x.map(0, "");
        S.due("behind -1000", x.broken(), -1);
        x.world("act k 2;law k(x,x);");
        x.image(0);
        x.world("act k 2;act l 2;");
        x.image(1);
        x.world("act m 2;act n 2;law m(x,x);law n(x,x);law n(x,n(x,x));law m(n(x,x),n(x,x));");
        x.map(0, "m=k(x,x);");
        S.due("behind a fault", x.broken(), -1);
        S.due("none kept", x.map(1, "m=k(x,x);n=l(x,x);"), 0);
        S.due("the least", x.broken(), 0);
        S.due("one kept, the least", x.map(1, "m=0 k(x,x);n=l(x,x);"), 2);
        S.due("the next", x.broken(), 1);
        x.map(1, "m=k(x,x);");
        S.due("a fault leaves it", x.broken(), 1);
        x.map(2, "m=k(x,x);n=k(x,x);");
        S.due("-1000 leaves it", x.broken(), 1);
        S.due("all kept", x.map(0, "m=k(x,x);n=k(x,x);"), 4);
        S.due("none", x.broken(), -1);
        x.map(1, "m=0 k(x,x);n=l(x,x);");
        x.world("act m 2;law m(x,m(x,m(x,m(x,m(x,x)))));");
        S.due("-1001", x.map(1, "m=k(x,x);"), -1001);
        S.due("it leaves it", x.broken(), 1);
        x.world("");
        S.due("a new world leaves it", x.broken(), 1);
        S.due("no laws", x.map(0, ""), 0);
        S.due("none", x.broken(), -1);
        x.world("act m 2;" + "law m(x,x)-m(x,x);".repeat(17) + "law m(x,x);");
        S.due("17 of 18", x.map(1, "m=k(x,x);"), 17);
        S.due("the last one", x.broken(), 17);
    }

    private static void space() {
        S.promise(29, "A SPACE of d ways (1 to 3), all TABLES 0: true; false: not as told.");
        Probe x = Probe.in("act m 2;law m(x,x);");
        for (int d = 1; d <= 3; d++) {
            S.due("space " + d, x.space(d), true);
            S.due("ways", x.count(4), d);
            S.due("the table is 0", x.holds(0), 1);
            x.table(0, "\1".repeat(d * d * d));
            S.due("it is not", x.holds(0), 0);
            S.due("the same space", x.space(d), true);
            S.due("the table is 0 again", x.holds(0), 1);
            x.table(0, "\1".repeat(d * d * d));
        }
        for (int d : new int[] {0, 4, -1, 5, Integer.MIN_VALUE, Integer.MAX_VALUE}) {
            S.due("space " + d, x.space(d), false);
        }
        S.due("ways stay", x.count(4), 3);
        S.due("tables stay", x.holds(0), 0);
        S.promise(29, "(A new WORLD has a SPACE of 1 way, TABLES 0.)");
        x.world("act m 2;law m(x,x);");
        S.due("ways", x.count(4), 1);
        S.due("table", x.holds(0), 1);
        x.space(3);
        S.due("in three ways", x.holds(0), 1);
    }

    private static void table() {
        S.promise(30, "The tape's bytes are the TABLE of ACT a (each by P, its rest): true; false: no such one, another number of bytes.");
        int[] entries = {2, 3, 4};
        for (int d = 1; d <= 3; d++) {
            Probe x = Probe.in("act a 2;act b 3;act c 4;law a(x,x);law b(x,x,x);law c(x,x,x,x);");
            x.space(d);
            for (int a = 0; a < 3; a++) {
                int bytes = d;
                for (int i = 0; i < entries[a]; i++) {
                    bytes *= d;
                }
                String zeros = "\0".repeat(bytes - 1);
                S.due("one byte more", x.table(a, zeros + "\1\1"), false);
                S.due("one byte less", x.table(a, "\1".repeat(bytes - 1)), false);
                S.due("no byte", x.table(a, ""), false);
                S.due("tape", x.count(5), 0);
                S.due("it stays 0", x.holds(a), 1);
                S.due("just so many", x.table(a, zeros + "\1"), true);
                S.due("it is not 0", x.holds(a), 0);
                S.due("act 3", x.table(3, zeros + "\1"), false);
                S.due("act -1", x.table(-1, zeros + "\1"), false);
            }
        }
        Probe x = Probe.in("mod 2;act m 2;law m(x,x);");
        x.sum("m(x,x)");
        int[] bytes = {0, 1, 2, 3, 127, 128, 254, 255};
        int[] primes = {2, 3, 97};
        for (int p : primes) {
            x = Probe.in("mod " + p + ";act m 2;");
            x.sum("m(x,x)");
            for (int b : bytes) {
                x.table(0, String.valueOf((char) b));
                S.due(b + " by " + p, x.done(0, "\0\0"), b % p);
            }
        }
        S.due("no acts", new Probe().table(0, "\1"), false);
    }

    private static void holds() {
        S.promise(31, "HOLDS: 1; 0; NONE: no such LAW.");
        Probe x = Probe.in("act m 2;law m(x,x);law 0 m(x,x);law " + SEVEN + ";");
        S.due("in a new world", x.holds(0), 1);
        x.space(3);
        S.due("tables are 0", x.holds(2), 1);
        x.table(0, "\0".repeat(26) + "\1");
        S.due("it does not", x.holds(0), 0);
        S.due("a law that is 0 does", x.holds(1), 1);
        S.due("2 2 is 2, seven times too", x.holds(2), 0);
        S.due("law 3", x.holds(3), -1);
        S.due("law -1", x.holds(-1), -1);
        for (int l : Sentences.wild()) {
            S.due("law " + l, x.holds(l), -1);
        }
        x.world("act m 2;");
        S.due("no laws", x.holds(0), -1);
    }

    private static void done() {
        S.promise(32, "The SUM at hand DONE in ways, the tape's bytes (one for each LEAF): how much of way i; NONE: not as told.");
        Probe x = Probe.in("mod 7;act m 2;");
        x.space(2);
        x.table(0, "\0\0\1\2\3\4\5\6");
        x.sum("2 m(x,x)");
        S.due("ways 0 1, way 1", x.done(1, "\0\1"), 4);
        S.due("ways 1 1, way 0", x.done(0, "\1\1"), 3);
        S.due("no byte", x.done(0, ""), -1);
        S.due("one byte", x.done(0, "\0"), -1);
        S.due("three bytes", x.done(0, "\0\0\0"), -1);
        S.due("no way 2 for a leaf", x.done(0, "\0\2"), -1);
        S.due("no way 255 for a leaf", x.done(0, "\u00ff\0"), -1);
        S.due("no way 48", x.done(0, "00"), -1);
        S.due("no way 2 of the outcome", x.done(2, "\0\0"), -1);
        S.due("no way -1", x.done(-1, "\0\0"), -1);
        for (int i : Sentences.wild()) {
            S.due("no way " + i, x.done(i, "\0\0"), -1);
        }
        x.times(0);
        S.due("0", x.done(0, "\1\1"), 0);
        S.due("0 has leaves too", x.done(0, "\1"), -1);
        x.sum("5 x");
        S.due("a leaf, its way", x.done(1, "\1"), 5);
        S.due("a leaf, another way", x.done(0, "\1"), 0);
        x.sum(SEVEN);
        S.due("seven bytes", x.done(1, "\1".repeat(7)) >= 0, true);
        S.due("eight bytes", x.done(1, "\1".repeat(8)), -1);
        S.due("six bytes", x.done(1, "\1".repeat(6)), -1);
        x.space(3);
        x.table(0, "\0".repeat(26) + "\3");
        S.due("seven leaves in three ways: 3 six times is 1 by 7", x.done(2, "\2".repeat(7)), 1);
        x.space(1);
        S.due("no way 1 in a space of 1", x.done(1, "\0".repeat(7)), -1);
        S.due("no way 1 for a leaf", x.done(0, "\1".repeat(7)), -1);
        x.world("");
        S.due("0 of 1 leaf", x.done(0, "\0"), 0);
    }

    private static void drawn() {
        S.promise(33, "The SUM is DRAWN, of n LEAVES: how many TERMS (1); NONE: not as told, no TREES, TOO MANY.");
        Probe x = new Probe();
        S.due("a leaf without acts", x.drawn(1, Integer.MIN_VALUE), 1);
        S.due("it", x.show(), "1 x");
        S.due("no trees", x.drawn(2, 1), -1);
        x.world("act t 3;act u 3;act v 3;");
        x.drawn(5, 7);
        String before = x.state();
        S.due("no trees of 6", x.drawn(6, 1), -1);
        S.due("324 trees of 7", x.drawn(7, 1), -1);
        for (int n : OUTSIDE_1_TO_7) {
            S.due("of " + n, x.drawn(n, 1), -1);
        }
        S.due("it stays", x.state(), before);
        S.due("refused ones keep nothing", x.undos(), 1);
        x.world("act m 2;");
        for (int seed : new int[] {0, 1, -1, Integer.MIN_VALUE, Integer.MAX_VALUE}) {
            S.due("seed " + seed, x.drawn(7, seed), 1);
            S.due("1 of it", x.term(0), 1);
        }
        x.world("act a 2;act b 2;");
        S.due("224 trees of 5", x.drawn(5, 1), 1);
        S.due("1344 trees of 6", x.drawn(6, 1), -1);
        x.world("mod 2;act m 2;law m(x,x);");
        S.due("where the size is 0", x.drawn(3, 0), 1);
        S.due("not normal", x.leaves(), 3);
    }

    private static void image() {
        S.promise(34, "WORLD (with SPACE and TABLES) and SUM are kept in place k (0, 1): true; false: no such one.");
        Probe x = Probe.in("mod 7;act m 2;law m(x,x);");
        for (int k : new int[] {-1, 2, 3, Integer.MIN_VALUE, Integer.MAX_VALUE}) {
            S.due("place " + k, x.image(k), false);
            S.due("restore " + k, x.restore(k), false);
        }
        x.space(2);
        x.table(0, "\0\0\0\0\0\0\0\3");
        x.sum("2 m(x,x)");
        S.due("place 0", x.image(0), true);
        S.due("the image leaves undo", x.undo(), 0);
        S.due("place 1", x.image(1), true);
        String without = x.state();
        x.table(0, "\1\1\1\1\1\1\1\1");
        x.world("mod 3;act t 3;act u 2;");
        x.dual();
        x.world("mod 5;act v 4;");
        S.due("restored 1", x.restore(1), true);
        S.due("as it was", x.state(), without);
        S.due("restored 0", x.restore(0), true);
        S.due("the sum", x.show(), "2 m(x,x)");
        S.due("the table", x.done(1, "\1\1"), 6);
        // What comes behind does not touch what is kept; a new image takes its place.
        x.space(3);
        x.times(3);
        x.dual();
        x.koszul(7);
        x.restore(0);
        S.due("still", x.done(1, "\1\1"), 6);
        x.world("mod 11;");
        S.due("place 0 again", x.image(0), true);
        x.restore(1);
        S.due("P in 1", x.count(0), 7);
        x.restore(0);
        S.due("P in 0", x.count(0), 11);
    }

    private static void restore() {
        S.promise(35, "true; false: no such one, or nothing is kept there");
        Probe x = Probe.in("mod 7;act m 2;law m(x,x);");
        x.space(2);
        x.sum("2 m(x,x)");
        x.times(2);
        x.image(1);
        String before = x.state();
        S.due("nothing in 0", x.restore(0), false);
        for (int k : new int[] {-1, 2, 3, Integer.MIN_VALUE, Integer.MAX_VALUE}) {
            S.due("place " + k, x.restore(k), false);
        }
        S.due("all stays", x.state(), before);
        S.due("what is kept for undo too", x.undo(), 1);
        S.due("the sum ahead", x.show(), "2 m(x,x)");
        S.due("place 1", x.restore(1), true);
        S.due("as kept", x.state(), before);
        S.due("twice", x.restore(1), true);
        S.due("as kept", x.state(), before);
        x.sum("x");
        S.due("restored to the sum", x.restore(1), true);
        S.due("nothing in 0 still", x.restore(0), false);
    }

    private static void restoreLeaves() {
        S.promise(35, "(the tape, and what map() told last, stays; nothing is kept for undo())");
        Probe x = Probe.in("act m 2;law m(x,x);");
        x.image(1);
        x.world("act n 2;law n(n(x,x),x);");
        x.image(0);
        x.world("act k 2;law 0 k(x,x);law k(k(x,x),x);law k(x,k(x,x));");
        S.due("two of three", x.map(0, "k=n(x,x);"), 2);
        x.sum("2 x");
        x.times(3);
        x.type("mod 5;");
        S.due("restore", x.restore(1), true);
        S.due("the tape stays", x.count(5), 6);
        S.due("broken stays", x.broken(), 2);
        S.due("nothing for undo", x.undo(), -1);
        x.times(0);
        S.due("it goes on", x.undo(), 0);
        S.due("nothing more", x.undo(), -1);
        S.due("the tape is read then", x.world(), 1);
        S.due("P", x.count(0), 5);
        x.map(0, "Q");
        x.restore(0);
        S.due("the kind of its fault stays", x.fault(), 0);
        x.sum("Q");
        x.restore(1);
        S.due("and of another one", x.fault(), 1);
    }

    private static void count() {
        S.promise(36, "0 P, 1 ACTS, 2 LAWS, 3 TERMS of the SUM, 4 ways of the SPACE, 5 bytes of the tape. NONE for another what.");
        Probe x = Probe.in("mod 89;act a 2;act b 3;act c 4;" + "law a(x,x);".repeat(18));
        x.space(3);
        x.sum("a(x,a(x,x))-b(x,x,x)");
        x.type("\0".repeat(940));
        S.due("P", x.count(0), 89);
        S.due("acts", x.count(1), 3);
        S.due("laws", x.count(2), 18);
        S.due("terms", x.count(3), 2);
        S.due("ways", x.count(4), 3);
        S.due("bytes", x.count(5), 940);
        S.due("another", x.count(6), -1);
        S.due("-1", x.count(-1), -1);
        for (int what : Sentences.wild()) {
            S.due("count " + what, x.count(what), -1);
        }
        x.end(0);
        x.world();
        int[] empty = {97, 0, 0, 0, 1, 0};
        for (int what = 0; what < empty.length; what++) {
            S.due("count " + what + " of an empty world", x.count(what), empty[what]);
        }
    }
}
