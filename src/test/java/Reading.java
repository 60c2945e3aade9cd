import java.io.IOException;
import java.nio.file.Files;
import java.nio.file.Path;
import java.util.NoSuchElementException;

/**
 * A walk through the document, sentence by sentence: the checks behind a sentence are its tests, and a
 * sentence that is passed over, or no longer stands there, is told as a failure.
 */
final class Reading {
    private final String document;
    private int at = 0;
    private int sentences = 0;
    private int tried = 0;
    private int wrong = 0;
    private int triedAhead = 0;
    private String sentence = "";

    /** Without a document the tests are run all the same. */
    Reading(Path file) throws IOException {
        document = Files.exists(file) ? words(Files.readString(file)) : "";
    }

    /** What the document says from its terms on: no headings, no fences, no signatures, one blank a gap. */
    private static String words(String text) {
        String part = text.substring(text.indexOf("## Terms"), text.indexOf("## Not promised"));
        return blanks(part.replaceAll("(?m)^(## |```).*$", " ").replaceAll("==== \\d\\.", " ")
                .replaceAll("(?m)^`[^`]*`:", " "));
    }

    private static String blanks(String text) {
        return text.replaceAll("\\s+", " ").strip();
    }

    /** The document's next words; the checks up to the next such call are theirs. */
    void says(String words) {
        closes();
        sentence = words;
        sentences++;
        if (document.isEmpty()) {
            return;
        }
        int found = document.indexOf(words, at);
        if (found < 0 || !document.substring(at, found).isBlank()) {
            fails("the document goes on otherwise: " + next());
        }
        at = found < 0 ? at : found + words.length();
    }

    private String next() {
        return document.substring(at, Math.min(document.length(), at + 120)).strip();
    }

    private void closes() {
        if (!sentence.isEmpty() && tried == triedAhead) {
            fails("no check stands behind it");
        }
        triedAhead = tried;
    }

    private void fails(String what) {
        wrong++;
        System.out.println("'" + sentence + "': " + what);
    }

    void eq(String call, long got, long due) {
        tried++;
        if (got != due) {
            fails(call + " answered " + got + ", due is " + due);
        }
    }

    void eq(String call, boolean got, boolean due) {
        eq(call, got ? 1 : 0, due ? 1 : 0);
    }

    /** Pairs: what is counted, and how much is due. */
    void counts(CloudTakes x, int... pairs) {
        for (int i = 0; i < pairs.length; i += 2) {
            eq("count(" + pairs[i] + ")", x.count(pairs[i]), pairs[i + 1]);
        }
    }

    void noSuch(String call, Runnable run) {
        throwing("NoSuchElementException", call, run);
    }

    void illegal(String call, Runnable run) {
        throwing("IllegalArgumentException", call, run);
    }

    private void throwing(String due, String call, Runnable run) {
        tried++;
        String got = thrown(run);
        if (!got.equals(due)) {
            fails(call + " throws " + got + ", due is " + due);
        }
    }

    private static String thrown(Runnable run) {
        try {
            run.run();
            return "nothing";
        } catch (RuntimeException e) {
            return e.getClass() == NoSuchElementException.class || e.getClass() == IllegalArgumentException.class
                    ? e.getClass().getSimpleName() : "what it must not: " + e;
        }
    }

    /** A text without a fault. */
    void good(String text) {
        fault(text, 0, CloudTakes.NONE);
    }

    /** A text with a fault at the place that '@' marks. */
    void bad(int due, String text) {
        int place = text.indexOf('@');
        fault(text.substring(0, place) + text.substring(place + 1), due, place);
    }

    private void fault(String text, int due, int place) {
        CloudTakes x = new CloudTakes();
        int got = Tape.plan(x, text);
        eq("plan of '" + text + "'", got, due);
        eq("fault() of '" + text + "'", x.fault(), place);
    }

    /** The minutes of a sky from the first on: 's' sun, 'c' cloud. */
    void sky(CloudTakes x, String due) {
        for (int i = 0; i < due.length(); i++) {
            eq("sky(" + i + ", 0)", x.sky(i, 0), due.charAt(i) == 's' ? 1 : 0);
        }
    }

    /** Ends the walk; whether all held and nothing was passed over. */
    boolean ends() {
        closes();
        if (!document.substring(at).isBlank()) {
            fails("behind it the document says still: " + next());
        }
        System.out.println(sentences + " sentences, " + tried + " checks, " + wrong + " wrong");
        return wrong == 0;
    }
}
