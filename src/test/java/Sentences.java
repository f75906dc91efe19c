import java.io.IOException;
import java.nio.file.Files;
import java.nio.file.Path;
import java.util.TreeSet;

/**
 * What the tests of single sentences share: the promise and the sentence that a test stands for,
 * looked up in the document, and what is due by it.
 */
final class Sentences {
    private static final Path DOCUMENT = Path.of("../shared/DOC.md");
    private static final int[] WILD = {Integer.MIN_VALUE, Integer.MIN_VALUE + 1, -1000, -2, Integer.MAX_VALUE, 1000};

    private final String document;
    private final TreeSet<Integer> promises = new TreeSet<>();
    private String now = "";
    private int told;
    private int wrong;

    Sentences() {
        document = read();
    }

    private static String read() {
        if (!Files.isReadable(DOCUMENT)) {
            System.out.println("no " + DOCUMENT + " here: the sentences are not looked up");
            return "";
        }
        try {
            return squeezed(Files.readString(DOCUMENT));
        } catch (IOException e) {
            throw new IllegalStateException(e);
        }
    }

    private static String squeezed(String text) {
        return text.replaceAll("\\s+", " ");
    }

    /** Begins the test of a sentence that stands under a promise's heading. */
    void promise(int promise, String sentence) {
        begin(promise, sentence, partFrom("## Promise " + promise + ": "));
    }

    /** Begins the test of a sentence of the terms, told for a promise that uses it. */
    void terms(int promise, String sentence) {
        begin(promise, sentence, partFrom("## Terms "));
    }

    /** Begins the test of a sentence from ahead of the terms: what it is, or the public face. */
    void opening(int promise, String sentence) {
        begin(promise, sentence, partFrom("## What it is ") + partFrom("## The public face "));
    }

    private void begin(int promise, String sentence, String part) {
        now = "promise " + promise + " \"" + sentence + "\"";
        promises.add(promise);
        told++;
        if (!document.isEmpty() && !part.contains(squeezed(sentence))) {
            wrong++;
            System.out.println(now + ": the document has no such sentence there");
        }
    }

    private String partFrom(String heading) {
        int from = document.indexOf(heading);
        if (from < 0) {
            return "";
        }
        int to = document.indexOf(" ## ", from);
        return document.substring(from, to < 0 ? document.length() : to);
    }

    void due(String what, long got, long want) {
        due(what, Long.toString(got), Long.toString(want));
    }

    void due(String what, boolean got, boolean want) {
        due(what, Boolean.toString(got), Boolean.toString(want));
    }

    void due(String what, String got, String want) {
        if (!got.equals(want)) {
            wrong++;
            System.out.println(now + ": " + what + " answered " + got + ", due is " + want);
        }
    }

    /** A text has a fault of this kind at this place: what its call answered, and the kind, and the empty tape. */
    void fault(String text, Probe x, int answer, int kind, int place) {
        due("answer to \"" + text + "\"", answer, -1 - place);
        due("fault of \"" + text + "\"", x.fault(), kind);
        due("tape behind \"" + text + "\"", x.count(5), 0);
    }

    void worldFault(String text, int kind, int place) {
        Probe x = new Probe();
        fault(text, x, x.world(text), kind, place);
    }

    void sumFault(Probe x, String text, int kind, int place) {
        fault(text, x, x.sum(text), kind, place);
    }

    void plugFault(Probe x, String text, int kind, int place) {
        fault(text, x, x.plug(0, text), kind, place);
    }

    void mapFault(Probe x, String text, int kind, int place) {
        fault(text, x, x.map(0, text), kind, place);
    }

    /** Numbers far off all bounds. */
    static int[] wild() {
        return WILD.clone();
    }

    /** Ends the run: each of these promises was named, and all answers are due; else exit code 1. */
    void finish(int... named) {
        for (int promise : named) {
            if (!promises.contains(promise)) {
                wrong++;
                System.out.println("no sentence of promise " + promise + " is tested");
            }
        }
        System.out.println(told + " sentences tested, " + wrong + " answers are not as due");
        if (wrong != 0) {
            System.exit(1);
        }
    }
}
