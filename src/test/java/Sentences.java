import java.io.IOException;
import java.nio.file.Files;
import java.nio.file.Path;
import java.util.LinkedHashMap;
import java.util.Map;

/**
 * Holds answers against the document, sentence by sentence: what is quoted must stand there, an answer must be asked
 * for behind each quote, and in the end nothing that the document says may be left without one.
 */
final class Sentences {
    private static final String TERMS = "Terms";
    private static final String WHAT_IT_IS = "What it is";

    private final Check check = new Check();
    private final Map<String, String> sections = new LinkedHashMap<>();
    private final Map<String, boolean[]> quoted = new LinkedHashMap<>();
    private String quote = "";
    private int answers = 1;
    private int quotes = 0;

    Sentences(Path document) throws IOException {
        String text = Files.readString(document);
        for (String section : text.split("\n## ")) {
            String name = section.split("[:\n]", 2)[0].trim();
            boolean isPromise = name.startsWith("Promise ");
            if (isPromise || name.equals(TERMS) || name.equals(WHAT_IT_IS)) {
                String body = plain(section.substring(section.indexOf('\n')));
                // the signature of a promise is FaceTest's
                body = isPromise ? body.substring(body.indexOf("`: ") + 3) : body;
                sections.put(name, body);
                quoted.put(name, new boolean[body.length()]);
            }
        }
        check.due("26 promises and two sections more", sections.size(), 28);
    }

    private static String plain(String text) {
        return text.replaceAll("```(text)?", " ").replaceAll("==== [0-9]\\.", " ").replaceAll("\\s+", " ").trim();
    }

    /** The answers from here on are due by this sentence of the section Terms. */
    void terms(String sentence) {
        says(TERMS, sentence);
    }

    /** The answers from here on are due by this sentence of a promise. */
    void promise(int number, String sentence) {
        says("Promise " + number, sentence);
    }

    void whatItIs(String sentence) {
        says(WHAT_IT_IS, sentence);
    }

    private void says(String section, String sentence) {
        check.due("a test of: " + quote, answers > 0, true);
        quote = section + ": " + sentence;
        answers = 0;
        quotes++;
        String body = sections.getOrDefault(section, "");
        int at = body.indexOf(sentence);
        check.due("stands in the document: " + quote, at >= 0, true);
        // one sentence may stand several times in a section: it says the same then
        for (; at >= 0; at = body.indexOf(sentence, at + 1)) {
            for (int i = at; i < at + sentence.length(); i++) {
                quoted.get(section)[i] = true;
            }
        }
    }

    void due(String call, long got, long want) {
        answers++;
        check.due("[" + quote + "] " + call, got, want);
    }

    void due(String call, boolean got, boolean want) {
        due(call, got ? 1 : 0, want ? 1 : 0);
    }

    /** A text that is a STATUTE of so many ACTS. */
    void isStatute(String text, int acts) {
        LawHoles x = new LawHoles();
        due("statute of " + text, Check.statute(x, 0, text), acts);
        due("fault(0) of " + text, x.fault(0), 0);
        due("fault(1) of " + text, x.fault(1), LawHoles.NONE);
    }

    /** A text that is a STATUTE with a FAULT of this kind at this place. */
    void isFaultyStatute(String text, int kind, int place) {
        LawHoles x = new LawHoles();
        due("statute of " + text, Check.statute(x, 0, text), LawHoles.NONE);
        due("fault(0) of " + text, x.fault(0), kind);
        due("fault(1) of " + text, x.fault(1), place);
    }

    /** A text that is a B with a FAULT of this kind at this place, as a NEVER, as a CURE and as a need. */
    void isFaultyCondition(String text, int kind, int place) {
        LawHoles x = new LawHoles();
        due("never of " + text, Check.never(x, text), LawHoles.NONE);
        due("fault(0) of the never " + text, x.fault(0), kind);
        due("fault(1) of the never " + text, x.fault(1), place);
        due("cure of " + text, Check.cure(x, 0, text), LawHoles.NONE);
        due("fault(0) of the cure " + text, x.fault(0), kind);
        due("fault(1) of the cure " + text, x.fault(1), place);
        String before = "act xx need ";
        due("need of " + text, Check.statute(x, 0, before + text), LawHoles.NONE);
        due("fault(0) of the need " + text, x.fault(0), kind);
        due("fault(1) of the need " + text, x.fault(1), place + before.length());
    }

    /** A text that is a B, which THE BEGINNING of a new object is or is not for some a, b and t. */
    void isCondition(String text, boolean isSo) {
        LawHoles x = new LawHoles();
        due("never of " + text, Check.never(x, text), 0);
        due("is it so: " + text, x.hole(0, 3, 0, 7, 0), isSo ? 0 : LawHoles.NONE);
    }

    void close() {
        check.due("a test of: " + quote, answers > 0, true);
        for (Map.Entry<String, String> section : sections.entrySet()) {
            String left = unquoted(section.getValue(), quoted.get(section.getKey()));
            boolean isAll = section.getKey().equals(WHAT_IT_IS) || !left.matches("(?s).*[a-zA-Z0-9].*");
            check.due("no test of what " + section.getKey() + " says: " + left, isAll, true);
        }
        System.out.println(quotes + " quotes");
        check.close();
    }

    private static String unquoted(String text, boolean[] isQuoted) {
        StringBuilder left = new StringBuilder();
        for (int i = 0; i < text.length(); i++) {
            if (!isQuoted[i]) {
                left.append(text.charAt(i));
            } else if (i > 0 && !isQuoted[i - 1]) {
                left.append(" .. ");
            }
        }
        return left.toString();
    }
}
