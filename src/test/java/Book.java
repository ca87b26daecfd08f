import java.io.IOException;
import java.nio.file.Files;
import java.nio.file.Path;
import java.util.BitSet;
import java.util.Map;
import java.util.TreeMap;
import java.util.concurrent.ExecutionException;
import java.util.concurrent.FutureTask;
import java.util.concurrent.TimeUnit;
import java.util.concurrent.TimeoutException;

/**
 * Ties each boundary test to the sentence of ../shared/DOC.md that it guards: a sentence
 * that does not stand there, one that no test names, and a test that does not look at the
 * boundary and at either side of it are faults of the tests themselves.
 */
final class Book {
    private static final Path DOCUMENT = Path.of("..", "shared", "DOC.md");
    private static final int FEWEST_ANSWERS = 3, LONGEST_SECONDS = 60;

    private final Checks checks = new Checks();
    private final Map<String, String> sections = new TreeMap<>();
    private final Map<String, BitSet> named = new TreeMap<>();
    private String title = "";
    private int answers = 0;
    private int sentences = 0;

    Book() {
        for (String section : document().split("(?m)^## ")) {
            String[] parts = section.split("\n", 2);
            String heading = parts[0].replaceAll(":.*", "");
            if (heading.equals("What it is") || heading.equals("Terms") || heading.startsWith("Promise")) {
                String words = parts[1].replace("```text", " ").replace("```", " ")
                    .replaceAll("\\s+", " ").trim().replaceAll("^`[^`]*`:", "");
                sections.put(heading, words);
                named.put(heading, new BitSet());
            }
        }
        checks.due("the document's sections", sections.size(), 11);
    }

    /** Runs the test of a sentence, which stands in the words below a heading. */
    void test(String heading, String words, Runnable body) {
        title = heading + ", \"" + words + "\": ";
        sentences++;
        answers = 0;
        name(heading, words);
        runToTheEnd(body);
        checks.due(title + "looked at on either side", Math.min(FEWEST_ANSWERS, answers), FEWEST_ANSWERS);
    }

    void due(String what, long got, long want) {
        answers++;
        checks.due(title + what, got, want);
    }

    void due(String what, String got, String want) {
        answers++;
        checks.due(title + what, got, want);
    }

    /** The next line of a text, as Checks.line tells it. */
    void line(String text, String want) {
        due("the line of <" + text + ">", Checks.line(Checks.mill(text)), want);
    }

    /** The spellings of a text's first line. */
    void cut(String text, String want) {
        due("cutting <" + text + ">", Checks.cut(text), want);
    }

    void finish(String test) {
        for (String heading : sections.keySet()) {
            checks.due(heading + ": what no test names", unnamed(heading), "");
        }
        System.out.println(test + ": " + sentences + " sentences");
        checks.finish(test);
    }

    private void name(String heading, String words) {
        int place = sections.getOrDefault(heading, "").indexOf(words);
        checks.due(title + "stands in the document", place >= 0 ? 1 : 0, 1);
        if (place >= 0) {
            named.get(heading).set(place, place + words.length());
        }
    }

    /** A sentence whose test throws or does not end is told by its name; behind one that throws the others go on. */
    private void runToTheEnd(Runnable body) {
        FutureTask<String> task = new FutureTask<>(body, "ended");
        Thread thread = new Thread(task);
        thread.setDaemon(true);
        thread.start();
        try {
            task.get(LONGEST_SECONDS, TimeUnit.SECONDS);
        } catch (ExecutionException e) {
            checks.due(title + "the test", "threw " + e.getCause(), "ended");
        } catch (TimeoutException | InterruptedException e) {
            checks.due(title + "the test", "goes on after " + LONGEST_SECONDS + " seconds", "ended");
            checks.finish("the tests so far");
        }
    }

    private String unnamed(String heading) {
        String section = sections.get(heading);
        StringBuilder rest = new StringBuilder();
        for (int i = 0; i < section.length(); i++) {
            boolean counts = Character.isLetterOrDigit(section.charAt(i)) && !named.get(heading).get(i);
            rest.append(counts ? section.charAt(i) : ' ');
        }
        return rest.toString().replaceAll("\\s+", " ").trim();
    }

    static String document() {
        try {
            return Files.readString(DOCUMENT);
        } catch (IOException e) {
            throw new IllegalStateException("can't read " + DOCUMENT, e);
        }
    }
}
