import java.lang.reflect.Method;
import java.lang.reflect.Modifier;
import java.nio.file.Files;
import java.nio.file.Path;
import java.util.ArrayList;
import java.util.Arrays;
import java.util.List;
import java.util.Map;
import java.util.TreeMap;
import java.util.regex.Matcher;
import java.util.regex.Pattern;

/**
 * Every word of the document's terms and promises is held by a test that says so, and what a test
 * says it holds stands in the document: of its promise, or among the terms.
 */
public final class SentencesTest {
    private static final int PROMISES = 31;
    private static final String TERMS = "Terms";
    private static final String WHOLE = "What it is";

    /** What no call can show. */
    private static final String[] HELD_BY_NONE = {
        // Of a place no call's line tells UNKNOWN: put, cell and copy tell INDEX.
        "place of a row",
        // That much is said of what is free, too.
        "what later calls answer is free",
    };

    private final Due due = new Due("SentencesTest");
    private final Map<String, String> said = new TreeMap<>();
    private final Map<String, boolean[]> held = new TreeMap<>();

    public static void main(String[] args) throws Exception {
        SentencesTest test = new SentencesTest();
        if (!Files.exists(document())) {
            // What is due can be tested without it, so that is no fault of the class.
            System.out.println("SentencesTest: there is no document at " + document());
            return;
        }
        test.readDocument(document());
        for (int promise = 1; promise <= PROMISES; promise++) {
            test.markTests(promise);
        }
        for (String words : HELD_BY_NONE) {
            test.mark(test.said.get(TERMS).contains(words) ? TERMS : WHOLE, words);
        }
        for (String section : test.said.keySet()) {
            test.tellWhatIsNotHeld(section);
        }
        test.due.end();
    }

    private static Path document() {
        String told = System.getenv("DUNCESEE_DOCUMENT");
        return Path.of(told == null ? "../shared/DOC.md" : told);
    }

    private static String name(int promise) {
        return "Promise " + promise;
    }

    private void readDocument(Path file) throws Exception {
        for (String part : Files.readString(file).split("(?m)^## ")) {
            String title = part.lines().findFirst().orElse("").replaceAll(":.*", "").trim();
            String text = plain(part.substring(part.indexOf('\n') + 1));
            if (title.equals(WHOLE)) {
                // The first lines say in short what the promises say.
                said.put(title, text.substring(text.indexOf("An object is used")));
            } else if (title.equals(TERMS)) {
                said.put(title, text.substring(0, text.indexOf("Ahead of the calls")).trim());
            } else if (title.startsWith("Promise ")) {
                // The face is held by FaceTest.
                said.put(title, text.replaceFirst("^`[^`]*`:", "").trim());
            }
        }
        due.is("sections", said.size(), PROMISES + 2);
        for (Map.Entry<String, String> one : said.entrySet()) {
            held.put(one.getKey(), new boolean[one.getValue().length()]);
        }
    }

    private static String plain(String text) {
        return text.replaceAll("```(text)?", " ").replaceAll("==== \\d", " ")
            .replaceAll("\\s+", " ").trim();
    }

    private void markTests(int promise) throws Exception {
        Class<?> tests = Class.forName(String.format("Promise%02dTest", promise));
        List<String> words = new ArrayList<>();
        for (Method test : tests.getDeclaredMethods()) {
            Holds holds = test.getAnnotation(Holds.class);
            if (holds == null) {
                // Else a test might be forgotten to be run.
                due.holds(test + " is no test", !Arrays.asList(test.getParameterTypes()).equals(
                    List.of(Due.class)));
                continue;
            }
            due.is(test + " is of its promise", holds.promise(), promise);
            due.holds(test + " can be run", Modifier.isStatic(test.getModifiers())
                && Arrays.asList(test.getParameterTypes()).equals(List.of(Due.class)));
            due.holds("two tests say " + holds.says(), !words.contains(holds.says()));
            words.add(holds.says());
            mark(whereIs(promise, holds.says()), holds.says());
        }
        due.holds(tests + " has tests", !words.isEmpty());
    }

    /** A promise's own words go before those of the terms. */
    private String whereIs(int promise, String words) {
        if (said.get(name(promise)).contains(words)) {
            return name(promise);
        }
        return said.get(TERMS).contains(words) ? TERMS : WHOLE;
    }

    private void mark(String section, String words) {
        String text = said.get(section);
        int at = text.indexOf(words);
        due.holds("\"" + words + "\" stands in the document", at >= 0);
        while (at >= 0) {
            Arrays.fill(held.get(section), at, at + words.length(), true);
            at = text.indexOf(words, at + 1);
        }
    }

    private void tellWhatIsNotHeld(String section) {
        Matcher word = Pattern.compile("[\\w']+").matcher(said.get(section));
        while (word.find()) {
            due.holds(section + ": \"" + word.group() + "\" at " + word.start() + " is held",
                held.get(section)[word.start()] && held.get(section)[word.end() - 1]);
        }
    }
}
