/**
 * The sentences of the document's terms that tell what texts are and where they have faults: a test
 * for each, with the promise that uses it. What is due is found from the sentence by hand.
 */
public final class TextSentencesTest {
    private static final Sentences S = new Sentences();
    private static final String SEVEN = "m(x,m(x,m(x,m(x,m(x,m(x,x))))))";
    private static final String EIGHT = "m(x,m(x,m(x,m(x,m(x,m(x,m(x,x)))))))";
    /** Where the eighth leaf of EIGHT is. */
    private static final int EIGHTH = 28;

    public static void main(String[] args) {
        tokens();
        trees();
        sums();
        worlds();
        lines();
        faultOrder();
        faultsOfTokens();
        endsOfTexts();
        faultsOfNumbers();
        faultsOfNames();
        faultsOfLeaves();
        faultsOfMany();
        maps();
        S.finish(4, 5, 7, 10, 19, 27, 36);
    }

    private static void tokens() {
        blanksOrNot();
        otherBlanksAreNoTokens();
        wordsOfOneToSixLetters();
        numbersOfOneOrTwoDigits();
        everyFirstByte();
        wordsAndNumbersGoOn();
    }

    private static void blanksOrNot() {
        S.terms(4, "TOKENS of all texts, with blanks (32, 10) between them or not");
        Probe x = new Probe();
        S.due("no blanks but where words meet", x.world("act m 2;law m(x,x)-m(x,x);"), 2);
        S.due("blanks everywhere", x.world("\n act \n m  2 ;\n\nlaw  - 3\nm ( x , x ) + m\n(\nx\n,\nx\n) ; \n"), 2);
        S.due("blanks alone", x.world(" \n\n "), 0);
        S.due("10 alone parts words", x.world("act\nm\n2;"), 1);
        S.due("blanks around a sum", x.sum(" \n m(x,x)\n "), 1);
        S.due("a blank behind minus or not", x.sum("- x") + x.sum("-x"), 2);
        S.worldFault("act m m 2;", 1, 6);
        S.worldFault("ac t m 2;", 1, 0);
        S.worldFault("mod 1 3;", 2, 4);
    }

    private static void otherBlanksAreNoTokens() {
        S.terms(10, "TOKENS of all texts, with blanks (32, 10) between them or not");
        char[] others = {0, 9, 11, 12, 13, 31, 33, 127, 160, 255};
        for (char other : others) {
            Probe x = Probe.in("act m 2;");
            S.sumFault(x, "m(x," + other + "x)", 1, 4);
            S.sumFault(x, "m(x,x)" + other, 1, 6);
        }
    }

    private static void wordsOfOneToSixLetters() {
        S.terms(4, "WORDS: small letters, 1 to 6");
        Probe x = new Probe();
        S.due("one letter", x.world("act z 2;law z(x,x);"), 2);
        S.due("six letters", x.world("act abcdef 2;law abcdef(x,x);"), 2);
        x.sum("abcdef(x,x)");
        S.due("all six are told again", x.show(), "1 abcdef(x,x)");
        S.worldFault("act abcdefg 2;", 1, 4);
        S.worldFault("act abcdef 2;law abcdefg(x,x);", 1, 17);
        S.worldFault("act A 2;", 1, 4);
        // The small letters ahead of another sign are a word of their own.
        S.worldFault("act aB 2;", 1, 5);
        S.worldFault("act abcdef 2;act abcdeg 2;law abcdeh(x,x);", 3, 30);
    }

    private static void numbersOfOneOrTwoDigits() {
        S.terms(4, "NUMBERS: 1 to 2 digits");
        Probe x = new Probe();
        S.due("one digit", x.world("mod 7;"), 1);
        S.due("P", x.count(0), 7);
        S.due("two digits", x.world("mod 07;act m 02;"), 2);
        S.due("P", x.count(0), 7);
        S.due("entries", x.act(0), 2);
        S.worldFault("mod 007;", 1, 4);
        S.worldFault("mod 097;", 1, 4);
        S.worldFault("act m 002;", 1, 6);
        S.due("99", x.sum("99 x"), 1);
        S.due("99 by 7", x.show(), "1 x");
        S.due("00", x.sum("00 x"), 0);
        S.sumFault(x, "100 x", 1, 0);
        S.sumFault(x, "-000 x", 1, 1);
    }

    /** x is a whole sum; other small letters are words without an act; digits, blanks and '-' want more; the rest can't come. */
    private static void everyFirstByte() {
        S.terms(10, "; ( ) , + - = .");
        Probe x = new Probe();
        for (char b = 0; b < 256; b++) {
            if (x.callsLeft() < 10) {
                x = new Probe();
            }
            String text = String.valueOf(b);
            if (b == 'x') {
                S.due("sum of a leaf", x.sum(text), 1);
            } else if (b >= 'a' && b <= 'z') {
                S.sumFault(x, text, 3, 0);
            } else if (b >= '0' && b <= '9' || b == ' ' || b == '\n' || b == '-') {
                S.sumFault(x, text, 1, 1);
            } else {
                S.sumFault(x, text, 1, 0);
            }
        }
    }

    private static void wordsAndNumbersGoOn() {
        S.terms(10, "(A WORD, NUMBER goes on as long as small letters and digits do; what is not as told is no TOKEN.)");
        Probe x = Probe.in("act m 2;");
        S.sumFault(x, "2x", 1, 0);
        S.sumFault(x, "x2", 1, 0);
        S.sumFault(x, "2m(x,x)", 1, 0);
        S.sumFault(x, "m(x,x2)", 1, 4);
        S.sumFault(x, "m2(x,x)", 1, 0);
        S.sumFault(x, "m(x,x)+1x1", 1, 7);
        S.sumFault(x, "xx", 3, 0);
        S.due("parted by a blank", x.sum("2 x"), 1);
        S.worldFault("act m2;", 1, 4);
        S.worldFault("mod3;", 1, 0);
        S.worldFault("actm 2;", 1, 0);
        S.worldFault("law1 m(x,x);", 1, 0);
    }

    private static void trees() {
        S.terms(10, "TREE: 'x' (a LEAF) | ACT ( TREE { , TREE } ) with as many TREES as the ACT has entries");
        Probe x = Probe.in("act a 2;act b 3;act c 4;");
        S.due("a leaf", x.sum("x"), 1);
        S.due("two", x.sum("a(x,x)"), 1);
        S.due("three", x.sum("b(x,x,x)"), 1);
        S.due("four", x.sum("c(x,x,x,x)"), 1);
        S.due("trees in trees", x.sum("b(a(x,x),x,c(x,x,x,x))"), 1);
        S.sumFault(x, "a(x)", 1, 3);
        S.sumFault(x, "b(x,x)", 1, 5);
        S.sumFault(x, "c(x,x,x)", 1, 7);
        S.sumFault(x, "a(x,x,x)", 1, 5);
        S.sumFault(x, "b(x,x,x,x)", 1, 7);
        S.sumFault(x, "c(x,x,x,x,x)", 1, 9);
        S.sumFault(x, "a()", 1, 2);
        S.sumFault(x, "a", 1, 1);
        S.sumFault(x, "a x,x)", 1, 2);
        S.sumFault(x, "a(,x)", 1, 2);
        S.sumFault(x, "a(x,)", 1, 4);
        S.sumFault(x, "a(x x)", 1, 4);
        S.sumFault(x, "a((x,x))", 1, 2);
        S.sumFault(x, "(x)", 1, 0);
        S.sumFault(x, "x(x,x)", 1, 1);
        S.sumFault(x, "a(x,3 x)", 1, 4);
        S.sumFault(x, "a(-x,x)", 1, 2);
        S.sumFault(x, "a(x,x))", 1, 6);
        S.terms(10, "7 LEAVES at most");
        x = Probe.in("act m 2;act c 4;");
        S.due("seven in twos", x.sum(SEVEN), 1);
        S.due("seven", x.leaves(), 7);
        S.due("seven in fours", x.sum("c(x,c(x,x,x,x),x,x)"), 1);
        S.sumFault(x, EIGHT, 4, EIGHTH);
        S.sumFault(x, "c(x,c(x,x,x,x),x,m(x,x))", 4, 21);
    }

    private static void sums() {
        S.terms(10, "SUM: [ '-' ] TERM { ( '+' | '-' ) TERM }");
        Probe x = Probe.in("mod 7;act m 2;act n 2;");
        S.due("one term", x.sum("m(x,x)"), 1);
        S.due("minus", x.sum("-m(x,x)"), 1);
        S.due("it is -1", x.show(), "6 m(x,x)");
        S.due("terms", x.sum("-m(x,x)-2 n(x,x)+3 m(x,x)"), 2);
        S.due("added", x.show(), "5 n(x,x) + 2 m(x,x)");
        S.sumFault(x, "", 1, 0);
        S.sumFault(x, "-", 1, 1);
        S.sumFault(x, "+x", 1, 0);
        S.sumFault(x, "--x", 1, 1);
        S.sumFault(x, "x+", 1, 2);
        S.sumFault(x, "x-", 1, 2);
        S.sumFault(x, "x+-x", 1, 2);
        S.sumFault(x, "x x", 1, 2);
        S.sumFault(x, "x;", 1, 1);
        S.terms(10, "TERM: [ NUMBER ] TREE (1 without)");
        S.due("1 without", x.sum("x"), 1);
        S.due("its number", x.term(0), 1);
        S.due("0 tells nothing", x.sum("0 x"), 0);
        S.due("99 is 1 by 7", x.sum("99 x"), 1);
        S.due("its number", x.term(0), 1);
        S.sumFault(x, "3", 1, 1);
        S.sumFault(x, "3 3 x", 1, 2);
        S.sumFault(x, "x 3", 1, 2);
        S.sumFault(x, "3-x", 1, 1);
        S.terms(10, "all TREES of a SUM have as many LEAVES as the first");
        S.due("as many", x.sum("m(x,n(x,x))+n(m(x,x),x)"), 2);
        S.due("0 as first", x.sum("0 m(x,x)+n(x,x)"), 1);
        S.sumFault(x, "m(x,x)+x", 3, 7);
        S.sumFault(x, "x+m(x,x)", 3, 2);
        S.sumFault(x, "0 m(x,x)+m(x,m(x,x))", 3, 9);
        S.sumFault(x, "m(x,x)-0 x", 3, 9);
    }

    private static void worlds() {
        S.terms(4, "A WORLD is a text of at most 900 bytes: { LINE ; }");
        Probe x = new Probe();
        S.due("no byte", x.world(""), 0);
        S.due("900 bytes, the last of them ;", x.world(" ".repeat(894) + "mod 3;"), 1);
        S.due("900 bytes, blanks behind", x.world("mod 3;" + " ".repeat(894)), 1);
        S.worldFault(" ".repeat(895) + "mod 3;", 1, 900);
        S.worldFault("mod 3;" + " ".repeat(895), 1, 900);
        S.worldFault(" ".repeat(940), 1, 900);
        S.worldFault(";", 1, 0);
        S.worldFault("mod 3;;", 1, 6);
        S.worldFault("mod 3", 1, 5);
        S.worldFault("mod 3 act m 2;", 1, 6);
        S.worldFault("mod 3,act m 2;", 1, 5);
        S.worldFault("m 2;", 1, 0);
        S.worldFault("x;", 1, 0);
        S.worldFault("2;", 1, 0);
    }

    private static void lines() {
        primes();
        lineOfPrime();
        entries();
        laws();
        names();
        mostActsAndLaws();
    }

    private static void primes() {
        S.terms(4, "'mod' P (a prime, 2 to 97; 97 without; once, ahead of all laws)");
        String primes = " 2 3 5 7 11 13 17 19 23 29 31 37 41 43 47 53 59 61 67 71 73 79 83 89 97 ";
        for (int n = 0; n < 100; n++) {
            if (primes.contains(" " + n + " ")) {
                Probe x = new Probe();
                S.due("mod " + n, x.world("mod " + n + ";"), 1);
                S.due("P", x.count(0), n);
            } else {
                S.worldFault("mod " + n + ";", 2, 4);
            }
        }
    }

    private static void lineOfPrime() {
        S.terms(36, "97 without; once, ahead of all laws");
        Probe x = Probe.in("mod 5;");
        x.world("act m 2;");
        S.due("97 without, whatever was ahead", x.count(0), 97);
        x.world("");
        S.due("97 of no lines", x.count(0), 97);
        S.due("behind acts", x.world("act m 2;mod 5;act n 2;law m(x,x);"), 4);
        S.due("P", x.count(0), 5);
        S.due("numbers ahead of it are by it", x.sum("4 m(x,x)+n(x,x)+m(x,x)"), 1);
        S.worldFault("mod 3;mod 3;", 3, 6);
        S.worldFault("act m 2;law m(x,x);mod 5;", 3, 19);
        S.worldFault("mod 5;act m 2;law m(x,x);mod 5;", 3, 25);
        S.worldFault("mod;", 1, 3);
        S.worldFault("mod m;", 1, 4);
        S.worldFault("mod -3;", 1, 4);
        S.worldFault("mod 3 5;", 1, 6);
    }

    private static void entries() {
        S.terms(4, "'act' NAME N (2 to 4 entries; ahead of all laws)");
        for (int n = 0; n < 100; n++) {
            if (n >= 2 && n <= 4) {
                Probe x = Probe.in("act m " + n + ";");
                S.due("entries", x.act(0), n);
            } else {
                S.worldFault("act m " + n + ";", 2, 6);
            }
        }
        S.worldFault("act m 2;law m(x,x);act n 2;", 3, 19);
        S.worldFault("act m 2;law 0 m(x,x);act n 2;", 3, 21);
        S.worldFault("act m;", 1, 5);
        S.worldFault("act;", 1, 3);
        S.worldFault("act 2;", 1, 4);
        S.worldFault("act m n;", 1, 6);
        S.worldFault("act m 2 3;", 1, 8);
    }

    private static void laws() {
        S.terms(7, "'law' SUM (it is 0; 2 LEAVES at least)");
        Probe x = Probe.in("act m 2;law m(x,x);");
        S.due("two leaves", x.law(0, 0), 2);
        S.due("it is 0", x.size(2), 0);
        x = Probe.in("act m 2;law " + SEVEN + ";");
        S.due("seven leaves", x.law(0, 0), 7);
        S.worldFault("act m 2;law x;", 3, 12);
        S.worldFault("law x;", 3, 4);
        S.worldFault("law 3 x-3 x;", 3, 6);
        S.worldFault("law;", 1, 3);
        S.worldFault("act m 2;law m(x,x)", 1, 18);
        S.worldFault("act m 2;law m(x,x)=m(x,x);", 1, 18);
        S.worldFault("act m 2;law " + EIGHT + ";", 4, 12 + EIGHTH);
    }

    private static void names() {
        S.terms(4, "NAME: a WORD, none of those told here; told once");
        for (String word : new String[] {"mod", "act", "law", "x"}) {
            S.worldFault("act " + word + " 2;", 1, 4);
            S.worldFault("act m 2;act " + word + " 2;", 1, 12);
        }
        for (String word : new String[] {"mods", "acts", "laws", "xx", "mo", "ac", "la", "y", "tree", "sum", "name"}) {
            S.due("act " + word, new Probe().world("act " + word + " 2;law " + word + "(x,x);"), 2);
        }
        S.worldFault("act m 2;act m 2;", 3, 12);
        S.worldFault("act m 2;act n 2;act m 4;", 3, 20);
        Probe x = Probe.in("act m 2;");
        S.due("told in the world ahead", x.world("act m 3;"), 1);
        S.due("the new one", x.act(0), 3);
    }

    private static void mostActsAndLaws() {
        S.terms(4, "3 ACTS, 18 LAWS at most, numbered from 0 each");
        Probe x = new Probe();
        S.due("3 acts", x.world("act a 2;act b 3;act c 4;"), 3);
        S.due("act 0", x.act(0), 2);
        S.due("act 2", x.act(2), 4);
        S.due("act 3", x.act(3), -1);
        S.worldFault("act a 2;act b 3;act c 4;act d 2;", 4, 24);
        String law = "law a(x,x);";
        S.due("18 laws", x.world("act a 2;" + law.repeat(17) + "law a(x,a(x,x));"), 19);
        S.due("laws", x.count(2), 18);
        S.due("law 0", x.law(0, 0), 2);
        S.due("law 17", x.law(17, 0), 3);
        S.due("law 18", x.law(18, 0), -1);
        S.worldFault("act a 2;" + law.repeat(19), 4, 8 + 18 * law.length());
        S.worldFault("act a 2;" + "law 0 a(x,x);".repeat(19), 4, 8 + 18 * 13);
    }

    private static void faultOrder() {
        S.terms(5, "FAULTS, the first along the text, of one TOKEN the least");
        S.worldFault("act m 5;act m Q;mod 4;", 2, 6);
        S.worldFault("act m Q;act m 5;", 1, 6);
        S.worldFault("act m 2;act m 5;mod 4;", 3, 12);
        S.worldFault("act a 2;act b 2;act c 2;act a 5;", 4, 24);
        S.worldFault("mod 3;mod 4;", 3, 6);
        // One token, two faults: a fourth act behind a law, a 19th law that is none, a told name that can't come.
        S.worldFault("act a 2;act b 2;act c 2;law a(x,x);act d 2;", 3, 35);
        S.worldFault("act a 2;" + "law a(x,x);".repeat(18) + "law;", 4, 8 + 18 * 11);
        S.worldFault("act m 2 m 2;", 1, 8);
        // Past seven leaves x is an eighth leaf where a tree is due, and else one that can't come.
        Probe x = Probe.in("act m 2;");
        S.sumFault(x, "m(x,m(x,m(x,m(x,m(x,m(x,x x", 1, 26);
        S.sumFault(x, "m(x,m(x,m(x,m(x,m(x,m(x,m(x", 1, 27);
        S.sumFault(x, "m(x,m(x,m(x,m(x,m(x,m(x,m(x,z", 3, 28);
        S.sumFault(x, "z(x,x)+Q", 3, 0);
        S.sumFault(x, "Q+z(x,x)", 1, 0);
    }

    private static void faultsOfTokens() {
        S.terms(5, "1 no TOKEN, or one that can't come (so , where the ACT has no more entries, ) where it has more; at it");
        Probe x = Probe.in("act m 2;act t 3;");
        S.sumFault(x, "m(x,x,x)", 1, 5);
        S.sumFault(x, "t(m(x,x,x),x,x)", 1, 7);
        S.sumFault(x, "t(x,x)", 1, 5);
        S.sumFault(x, "m(t(x,x),x)", 1, 7);
        S.sumFault(x, "  m  (  x  )  ", 1, 11);
        S.sumFault(x, "m(x,\u00e9)", 1, 4);
        S.sumFault(x, "m(x,X)", 1, 4);
        S.sumFault(x, "m(x,x).", 1, 6);
        S.sumFault(x, "m(x,x)=x", 1, 6);
        S.worldFault("act m 2;\0", 1, 8);
        S.worldFault("#act m 2;", 1, 0);
        S.worldFault("act m 2.", 1, 7);
        S.worldFault("act m = 2;", 1, 6);
        wordsOfTheDocument();
    }

    private static void wordsOfTheDocument() {
        S.terms(5, "NAME: a WORD, none of those told here");
        for (String word : new String[] {"mod", "act", "law"}) {
            Probe x = Probe.in("act m 2;");
            x.image(0);
            S.sumFault(x, word + "(x,x)", 1, 0);
            S.plugFault(x, "m(x," + word + ")", 1, 4);
            S.mapFault(x, word + "=m(x,x);", 1, 0);
            S.mapFault(x, "m=" + word + "(x,x);", 1, 2);
            S.worldFault("act m 2;law " + word + "(x,x);", 1, 12);
        }
        Probe x = Probe.in("act m 2;");
        x.image(0);
        S.mapFault(x, "x=m(x,x);", 1, 0);
    }

    private static void endsOfTexts() {
        S.terms(4, "the end: how many bytes there are");
        S.worldFault("a", 1, 0);
        S.worldFault("act", 1, 3);
        S.worldFault("act m", 1, 5);
        S.worldFault("act m 2", 1, 7);
        S.worldFault("act m 2 \n ", 1, 10);
        S.worldFault("law", 1, 3);
        S.worldFault("act m 2;law m(x,x)-", 1, 19);
        S.worldFault("act m 2;law m(x", 1, 15);
        S.worldFault("act m 2;law m(x,x)" + " ".repeat(882), 1, 900);
        Probe x = Probe.in("act m 2;");
        S.sumFault(x, "", 1, 0);
        S.sumFault(x, " \n", 1, 2);
        S.sumFault(x, "m(x,x" + " ".repeat(395), 1, 400);
        S.plugFault(x, "", 1, 0);
        S.plugFault(x, "m(x,x)+ ", 1, 8);
        x.image(0);
        S.mapFault(x, "m=m(x,x) ", 1, 9);
        worldCutOff();
        sumCutOff();
        mapCutOff();
    }

    private static final String CUT = "the most bytes told, if there are more and no FAULT is ahead: TOKENS that begin ahead of it are read whole";

    private static void worldCutOff() {
        S.terms(4, CUT);
        S.worldFault("mod 3;" + " ".repeat(895), 1, 900);
        S.worldFault("mod 3;" + " ".repeat(894) + "Q", 1, 900);
        S.worldFault(" ".repeat(900) + "act m 2;", 1, 900);
        S.worldFault(" ".repeat(893) + "act m 2;", 1, 900);
        // A fault ahead of the most bytes is the first one.
        S.worldFault("mod 4;" + " ".repeat(900), 2, 4);
        S.worldFault(" ".repeat(899) + "Q ", 1, 899);
        S.worldFault(" ".repeat(894) + "mod 3 ", 1, 900);
        // 'mod' has its last byte behind the 900th one, and is read whole: what it wants then is cut off.
        S.worldFault(" ".repeat(898) + "mod 3;", 1, 900);
        S.worldFault(" ".repeat(898) + "mad 3;", 1, 898);
        // So a number: 3, 4 are the parts ahead, 37, 40 the wholes.
        S.worldFault(" ".repeat(895) + "mod 37;", 1, 900);
        S.worldFault(" ".repeat(895) + "mod 40;", 2, 899);
        S.worldFault(" ".repeat(895) + "mod 377;", 1, 899);
        // A name of six letters, one of seven; a law's leaf that goes on as another word.
        S.worldFault(" ".repeat(895) + "act abcdef 2;", 1, 900);
        S.worldFault(" ".repeat(895) + "act abcdefg 2;", 1, 899);
        S.worldFault("act m 2;" + " ".repeat(887) + "law x;", 3, 899);
        S.worldFault("act m 2;" + " ".repeat(887) + "law xx;", 3, 899);
        S.worldFault("act xx 2;" + " ".repeat(886) + "law xx;", 1, 900);
    }

    private static void sumCutOff() {
        S.terms(10, CUT);
        Probe x = Probe.in("act m 2;act ab 2;");
        S.due("400 bytes", x.sum(" ".repeat(394) + "m(x,x)"), 1);
        S.due("400 bytes, blanks behind", x.sum("m(x,x)" + " ".repeat(394)), 1);
        S.sumFault(x, " ".repeat(395) + "m(x,x)", 1, 400);
        S.sumFault(x, "m(x,x)" + " ".repeat(395), 1, 400);
        S.sumFault(x, " ".repeat(399) + "ab(x,x)", 1, 400);
        S.sumFault(x, " ".repeat(399) + "ac(x,x)", 3, 399);
        S.sumFault(x, " ".repeat(399) + "xab", 3, 399);
        S.sumFault(x, " ".repeat(399) + "100 x", 1, 399);
        S.sumFault(x, " ".repeat(399) + "10 x", 1, 400);
        S.sumFault(x, "m(x,x)+x" + " ".repeat(400), 3, 7);
        S.terms(19, CUT);
        S.plugFault(x, "x" + " ".repeat(400), 1, 400);
        S.plugFault(x, " ".repeat(399) + "xx", 3, 399);
        S.due("400 bytes", x.plug(0, "x" + " ".repeat(399)) >= 0, true);
    }

    private static void mapCutOff() {
        S.terms(27, CUT);
        Probe x = Probe.in("act m 2;act n 2;");
        x.image(0);
        String whole = "m=m(x,x);n=n(x,x);";
        S.due("400 bytes", x.map(0, " ".repeat(382) + whole), 0);
        S.mapFault(x, " ".repeat(383) + whole, 1, 400);
        S.mapFault(x, whole + " ".repeat(383), 1, 400);
        // More bytes, and an act that is not told at the same place: the least of the two.
        S.mapFault(x, "m=m(x,x);" + " ".repeat(392), 1, 400);
        S.mapFault(x, "m=m(x,x);" + " ".repeat(391), 3, 400);
        S.mapFault(x, " ".repeat(399) + "mn", 3, 399);
        S.mapFault(x, " ".repeat(399) + "m=m(x,x);", 1, 400);
    }

    private static void faultsOfNumbers() {
        S.terms(5, "2 a NUMBER that is not as told (at it)");
        S.worldFault("mod 0;", 2, 4);
        S.worldFault("mod 1;", 2, 4);
        S.worldFault("mod 98;", 2, 4);
        S.worldFault("mod 99;", 2, 4);
        S.worldFault("mod  91  ;", 2, 5);
        S.worldFault("act m 1;", 2, 6);
        S.worldFault("act m 5;", 2, 6);
        S.worldFault("act m 00;", 2, 6);
        S.worldFault("mod 4", 2, 4);
        S.worldFault("act m 5 5;", 2, 6);
        Probe x = new Probe();
        S.due("every number is right in a sum", x.sum("0 x+00 x+99 x"), 1);
    }

    private static void faultsOfNames() {
        S.terms(5, "3 a NAME told twice, no such ACT (at it)");
        S.worldFault("act m 2;act  m 3;", 3, 13);
        S.worldFault("law z(x,x);", 3, 4);
        S.worldFault("act m 2;law m(x,mm(x,x));", 3, 16);
        S.worldFault("act m 2;law z;", 3, 12);
        Probe x = Probe.in("act m 2;");
        S.sumFault(x, "m(m(x,x),n(x,x))", 3, 9);
        S.plugFault(x, "n", 3, 0);
        x.image(0);
        S.mapFault(x, "n=m(x,x);", 3, 0);
        S.mapFault(x, "m=n(x,x);", 3, 2);
        S.sumFault(new Probe(), "m(x,x)", 3, 0);
        S.terms(5, "mod told twice, mod or act behind a law (at its WORD)");
        S.worldFault("mod 3; mod 5;", 3, 7);
        S.worldFault("mod 3;mod Q;", 3, 6);
        S.worldFault("act m 2;law m(x,x); mod 3;", 3, 20);
        S.worldFault("act m 2;law m(x,x); act Q;", 3, 20);
        S.worldFault("act m 2;law m(x,x);law m(x,x);act n 2;", 3, 30);
    }

    private static void faultsOfLeaves() {
        String sentence = "a TREE with another number of LEAVES than the first, a LEAF alone as a TREE of a law (both once it is read whole, at its first TOKEN)";
        S.terms(5, sentence);
        Probe x = Probe.in("act m 2;");
        S.sumFault(x, "m(x,x)+ m(x,m(x,x))", 3, 8);
        S.sumFault(x, "m(x,x)+5 m(x,m(x,x))", 3, 9);
        S.sumFault(x, "m(x,x)+m(x,x)+x", 3, 14);
        // Not read whole: what stands in it comes first, even behind its first token.
        S.sumFault(x, "m(x,x)+m(x,m(x,Q", 1, 15);
        S.sumFault(x, "m(x,x)+m(x,m(x,x)", 1, 17);
        S.sumFault(x, "m(x,x)+m(x,m(x,z))", 3, 15);
        S.sumFault(x, "m(x,x)+" + EIGHT, 4, 7 + EIGHTH);
        S.sumFault(x, "x+m(x,x", 1, 7);
        // Read whole: what stands behind it comes later.
        S.sumFault(x, "m(x,x)+m(x,m(x,x))Q", 3, 7);
        S.sumFault(x, "m(x,x)+m(x,m(x,x)))", 3, 7);
        S.sumFault(x, "m(x,x)+x,", 3, 7);
        S.plugFault(x, "x+m(x,x)", 3, 2);
        S.terms(4, sentence);
        S.worldFault("act m 2;law  x;", 3, 13);
        S.worldFault("act m 2;law 4 x;", 3, 14);
        S.worldFault("act m 2;law -4 x;", 3, 15);
        S.worldFault("act m 2;law x+m(x,x);", 3, 12);
        S.worldFault("act m 2;law x(x,x);", 3, 12);
        S.worldFault("act m 2;law xQ", 3, 12);
        S.worldFault("act m 2;law m(x,x)-x;", 3, 19);
        S.worldFault("act m 2;law m(x,x)-m(m(x,x),x);", 3, 19);
        S.due("a leaf alone is a sum", x.sum("x"), 1);
    }

    private static void faultsOfMany() {
        S.terms(5, "4 a fourth ACT, a 19th LAW (at the LINE's first WORD), an eighth LEAF of a TREE (at it)");
        S.worldFault("act a 2;act b 2;act c 2; act d 2;", 4, 25);
        S.worldFault("act a 2;act b 2;act c 2;act Q", 4, 24);
        S.worldFault("act a 2;" + "law a(x,x);".repeat(18) + " law Q", 4, 9 + 18 * 11);
        S.worldFault("act m 2;law " + EIGHT + ";", 4, 12 + EIGHTH);
        S.worldFault("act m 2;law m(x,x)+" + EIGHT + ";", 4, 19 + EIGHTH);
        Probe x = Probe.in("act m 2;");
        x.image(0);
        S.sumFault(x, EIGHT, 4, EIGHTH);
        S.sumFault(x, SEVEN + "-" + EIGHT, 4, SEVEN.length() + 1 + EIGHTH);
        S.plugFault(x, EIGHT, 4, EIGHTH);
        S.mapFault(x, "m=" + EIGHT + ";", 4, 2 + EIGHTH);
        S.due("seven leaves, twice", x.sum(SEVEN + "+" + SEVEN), 1);
        S.due("more leaves in all trees than seven", x.sum("m(x,m(x,m(x,x)))+m(m(m(x,x),x),x)-m(m(x,x),m(x,x))"), 3);
    }

    private static void maps() {
        S.terms(27, "MAP: a text of at most 400 bytes: { ACT = SUM ; }");
        Probe x = Probe.in("act k 2;act l 3;");
        x.image(0);
        x.world("act m 2;act n 3;");
        S.due("a map", x.map(0, "m=k(x,x);n=l(x,x,x);"), 0);
        S.due("its acts in any order, with blanks", x.map(0, " n\n=\nl ( x , x , x )\n;m = 3 k(x,x) ; "), 0);
        S.mapFault(x, "m k(x,x);", 1, 2);
        S.mapFault(x, "m=;", 1, 2);
        S.mapFault(x, "m=3;", 1, 3);
        S.mapFault(x, "m==k(x,x);", 1, 2);
        S.mapFault(x, "=k(x,x);", 1, 0);
        S.mapFault(x, ";", 1, 0);
        S.mapFault(x, "3=k(x,x);", 1, 0);
        S.mapFault(x, "m=k(x,x),", 1, 8);
        S.mapFault(x, "m=k(x,x)", 1, 8);
        S.mapFault(x, "m=k(x,x) n=l(x,x,x);", 1, 9);
        S.mapFault(x, "m=k(x,x);n=l(x,x,x);;", 1, 20);
        S.mapFault(x, "m=k(x,x,x);", 1, 7);
        S.mapFault(x, "m", 1, 1);
        S.terms(27, "for each ACT of this WORLD once a SUM in the other WORLD (its ACTS), with as many LEAVES as the ACT has entries");
        S.due("sums", x.map(0, "m=k(x,x)+2 k(x,x);n=k(x,k(x,x))-l(x,x,x);"), 0);
        S.mapFault(x, "m=m(x,x);", 3, 2);
        S.mapFault(x, "k=k(x,x);", 3, 0);
        x.world("");
        S.due("no acts, no sums", x.map(0, ""), 0);
        S.due("no acts, blanks", x.map(0, " \n"), 0);
        S.mapFault(x, "k=k(x,x);", 3, 0);
        mapFaults();
    }

    private static void mapFaults() {
        S.terms(27, "FAULTS 1, 2, 3 (no such ACT, one told twice; a TREE with another number of LEAVES than the ACT has entries: once it is read whole, at the TREE's first TOKEN; an ACT that is not told: at the end), 4");
        Probe x = Probe.in("act k 2;act l 3;");
        x.image(0);
        x.world("act m 2;act n 3;");
        S.mapFault(x, "z=k(x,x);", 3, 0);
        S.mapFault(x, "m=z(x,x);", 3, 2);
        S.mapFault(x, "m=k(x,x); m=k(x,x);", 3, 10);
        S.mapFault(x, "m=k(x,x);n=l(x,x,x);m=Q", 3, 20);
        // Told twice, though the first sum is 0.
        S.mapFault(x, "m=0 k(x,x);m=k(x,x);", 3, 11);
        S.mapFault(x, "m= 3 l(x,x,x);", 3, 5);
        S.mapFault(x, "m=x;", 3, 2);
        S.mapFault(x, "m=k(x,x)-x;", 3, 9);
        S.mapFault(x, "n=k(x,x);", 3, 2);
        S.mapFault(x, "n=l(x,x,x)+k(x,x);", 3, 11);
        S.mapFault(x, "n=k(x,k(x,k(x,x)));", 3, 2);
        // Not read whole, and read whole.
        S.mapFault(x, "m=l(x,x,Q", 1, 8);
        S.mapFault(x, "m=l(x,x,x", 1, 9);
        S.mapFault(x, "m=l(x,x,x)Q", 3, 2);
        S.mapFault(x, "m=x", 3, 2);
        S.mapFault(x, "", 3, 0);
        S.mapFault(x, "  \n", 3, 3);
        S.mapFault(x, "m=k(x,x);", 3, 9);
        S.mapFault(x, "n=l(x,x,x); ", 3, 12);
        S.mapFault(x, "n=" + EIGHT.replace('m', 'k') + ";", 4, 2 + EIGHTH);
        // In a map every number is right, as in a sum.
        S.due("numbers", x.map(0, "m=0 k(x,x);n=99 l(x,x,x);"), 0);
    }
}
