import java.io.IOException;
import java.nio.file.Files;
import java.nio.file.Path;
import java.util.BitSet;
import java.util.LinkedHashMap;
import java.util.Map;
import java.util.function.IntUnaryOperator;
import java.util.regex.Matcher;
import java.util.regex.Pattern;

/**
 * Sentences of the document, each with the answers that are due by it. A sentence that the document
 * doesn't have, one without an answer, and a word of the document in no sentence, are told as wrong.
 */
final class Sentences {
    private static final Path DOCUMENT = Path.of("../shared/DOC.md");
    private final Calls calls = new Calls();
    private final Map<String, String> sections = new LinkedHashMap<>();
    private final Map<String, BitSet> spokenOf = new LinkedHashMap<>();
    private String section = "";
    private String quote = "";
    private int answers = 1;

    Sentences() throws IOException {
        Matcher heading = Pattern.compile("(?m)^## (.*)$").matcher(Files.readString(DOCUMENT));
        String document = Files.readString(DOCUMENT);
        String name = "";
        int start = 0;
        while (heading.find()) {
            keep(name, document.substring(start, heading.start()));
            name = heading.group(1).replaceAll(":.*", "");
            start = heading.end();
        }
        keep(name, document.substring(start));
    }

    /** Terms are kept in their four parts; what a call looks like is left out. */
    private void keep(String name, String text) {
        String plain = text.replaceAll("(?m)^```.*$", "").replaceAll("`[^`]*`:", "").replaceAll("\\s+", " ");
        String[] parts = name.equals("Terms") ? plain.split("==== \\d\\.") : new String[] {plain};
        for (int part = 0; part < parts.length; part++) {
            String key = parts.length == 1 ? name : name + " " + (part + 1);
            sections.put(key, parts[part]);
            spokenOf.put(key, new BitSet());
        }
    }

    /** What is said next stands in this section. */
    void in(String name) {
        wrongIf(!sections.containsKey(name), "no such section: " + name);
        section = name;
    }

    /** What is due next is due by this sentence; it stands in the section once. */
    void says(String sentence) {
        wrongIf(answers == 0, "no answer by: " + quote);
        quote = sentence;
        answers = 0;
        String text = sections.getOrDefault(section, "");
        int place = text.indexOf(sentence);
        wrongIf(place < 0, section + " doesn't say: " + sentence);
        wrongIf(place >= 0 && text.indexOf(sentence, place + 1) >= 0, section + " says more than once: " + sentence);
        if (place >= 0) {
            spokenOf.get(section).set(place, place + sentence.length());
        }
    }

    void due(String call, long got, long want) {
        answers++;
        calls.due(section + " (" + quote + "): " + call, got, want);
    }

    /** One answer is due for all of these arguments. */
    void each(String call, int want, IntUnaryOperator answer, int... arguments) {
        for (int argument : arguments) {
            due(call + " of " + argument, answer.applyAsInt(argument), want);
        }
    }

    DayProfiles read(String text) {
        DayProfiles x = new DayProfiles();
        int lines = Calls.text(x, text);
        wrongIf(lines < 0, "a fault " + x.fault(0) + " at " + x.fault(1) + " of: " + text);
        return x;
    }

    private void wrongIf(boolean wrong, String what) {
        calls.due(what, wrong ? 1 : 0, 0);
    }

    void end() {
        wrongIf(answers == 0, "no answer by: " + quote);
        // FaceTest has the public face; by what isn't promised no answer is due.
        for (Map.Entry<String, String> one : sections.entrySet()) {
            if (one.getKey().matches("What it is|(Terms|Promise) \\d+")) {
                lookForWords(one.getKey(), one.getValue());
            }
        }
        calls.end();
    }

    private void lookForWords(String name, String text) {
        Matcher word = Pattern.compile("[\\w-]+").matcher(text.replaceAll("==== \\d\\.", "       "));
        while (word.find()) {
            int place = spokenOf.get(name).nextClearBit(word.start());
            String around = text.substring(Math.max(0, word.start() - 30), Math.min(text.length(), word.end() + 30));
            wrongIf(place < word.end(), name + " has words without a test: .." + around + "..");
        }
        wrongIf(spokenOf.get(name).isEmpty(), name + " has no test");
    }
}
