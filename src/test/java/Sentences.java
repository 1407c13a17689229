import java.io.IOException;
import java.nio.file.Files;
import java.nio.file.Path;
import java.util.TreeMap;
import java.util.function.LongSupplier;

/**
 * Answers that are due by a sentence of the document. Each sentence is quoted word for word, with its promise (0: ahead
 * of the promises), so that it can be found again there; and each word of the promises must be quoted by some test.
 */
final class Sentences {
    private static final Path DOCUMENT = Path.of("../shared/DOC.md");

    private final Due due = new Due();
    // By the promise: what the document says there, and which of its signs were quoted.
    private final TreeMap<Integer, String> said = new TreeMap<>();
    private final TreeMap<Integer, boolean[]> quoted = new TreeMap<>();
    private String place = "";
    private int asked;

    Sentences() throws IOException {
        if (Files.exists(DOCUMENT)) {
            read(Files.readString(DOCUMENT));
        } else {
            System.out.println("no " + DOCUMENT + " here: the quotes are not looked up");
        }
    }

    private void read(String document) {
        int promise = 0;
        boolean isTold = true;
        boolean isFace = false;
        for (String line : document.split("\n")) {
            if (line.startsWith("## ")) {
                isTold = !line.startsWith("## Not promised");
                promise = line.startsWith("## Promise ") ? Integer.parseInt(line.replaceAll("\\D+(\\d+).*", "$1")) : promise;
            } else if (line.startsWith("```")) {
                isFace = line.startsWith("```java");
            } else if (isTold && !isFace && !line.startsWith("#") && !line.startsWith("Ahead of the calls")) {
                said.merge(promise, line.trim(), (before, more) -> (before + " " + more).trim());
            }
        }
        said.computeIfPresent(0, (key, text) -> text.replaceAll("^.*?======== 1 ", "").replaceAll("======== \\d ", ""));
        said.replaceAll((key, text) -> text.replaceAll("^`[^`]*`: ", ""));
        said.forEach((key, text) -> quoted.put(key, new boolean[text.length()]));
    }

    /** The answers asked for from now on are due by this sentence. */
    void of(int promise, String sentence) {
        endSentence();
        place = "promise " + promise + ", \"" + sentence + "\"";
        if (said.isEmpty()) {
            return;
        }
        String text = said.getOrDefault(promise, "");
        int at = text.indexOf(sentence);
        due.is(place + " stands in the document", at >= 0 ? 1 : 0, 1);
        while (at >= 0) {
            for (int index = at; index < at + sentence.length(); index++) {
                quoted.get(promise)[index] = true;
            }
            at = text.indexOf(sentence, at + 1);
        }
    }

    void is(String call, long got, long want) {
        asked++;
        due.is(place + ": " + call, got, want);
    }

    /** A call that is refused, and changes nothing. */
    void refuses(PegField x, String call, long want, LongSupplier refused) {
        long before = x.digest();
        is(call, refused.getAsLong(), want);
        is("nothing is changed by " + call, x.digest(), before);
    }

    private void endSentence() {
        if (!place.isEmpty()) {
            due.is(place + " has a test", asked > 0 ? 1 : 0, 1);
        }
        asked = 0;
    }

    /** Ends the program with exit code 1 if an answer was wrong, or if words of the promises were not quoted. */
    void end() {
        endSentence();
        said.forEach((promise, text) -> {
            StringBuilder missed = new StringBuilder();
            for (int index = 0; index < text.length(); index++) {
                boolean isWord = Character.isLetterOrDigit(text.charAt(index));
                missed.append(isWord && !quoted.get(promise)[index] ? text.charAt(index) : ' ');
            }
            String words = missed.toString().trim().replaceAll(" +", " ");
            due.is("promise " + promise + ", words without a test: " + words, words.length(), 0);
        });
        due.end();
    }
}
