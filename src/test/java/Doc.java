import java.io.IOException;
import java.nio.file.Files;
import java.nio.file.Path;
import java.util.LinkedHashMap;
import java.util.Map;

/**
 * ../shared/DOC.md, sentence by sentence: a test says which sentence it is for, and in the end no sentence of the terms
 * and of the promises may be left for which no test was.
 */
final class Doc {
    private static final class Section {
        final String text;
        final boolean[] said;

        Section(String text) {
            this.text = text;
            said = new boolean[text.length()];
        }
    }

    private static final Map<String, Section> SECTIONS = new LinkedHashMap<>();
    private static String name = "";
    private static String sentence = "";

    private Doc() {
    }

    /** Sections are "uses", "terms", "terms 1" to "terms 3" and "promise 1" to "promise 47". */
    static void read() throws IOException {
        String doc = Files.readString(Path.of("../shared/DOC.md"));
        String terms = between(doc, "## Terms\n", "## Promise 1:");
        String[] parts = terms.split("======== [1-3] ");
        put("uses", between(doc, "\nAn object is used", "## The public face"));
        put("terms", parts[0]);
        for (int i = 1; i < parts.length; i++) put("terms " + i, parts[i]);
        String[] promises = between(doc, "## Promise 1:", "## Not promised").split("## Promise ");
        for (int i = 0; i < promises.length; i++) {
            // behind the heading and the call's own line of Java
            put("promise " + (i + 1), promises[i].substring(promises[i].indexOf("`: ") + 3));
        }
        Check.due("promises of the document", promises.length, 47);
        Check.due("parts of the terms", parts.length, 4);
    }

    private static String between(String doc, String from, String to) {
        int start = doc.indexOf(from) + from.length();
        return doc.substring(start, doc.indexOf(to, start));
    }

    private static void put(String name, String text) {
        SECTIONS.put(name, new Section(plain(text.replace("```text", " ").replace("```", " "))));
    }

    private static String plain(String text) {
        return text.replaceAll("\\s+", " ").trim();
    }

    static void section(String of) {
        name = of;
        sentence = "";
        Check.holds("the document has " + of, SECTIONS.containsKey(of));
    }

    /** What follows tests this sentence, which must stand in the section as it is told here. */
    static void says(String quote) {
        sentence = plain(quote);
        Section s = SECTIONS.get(name);
        int at = s.text.indexOf(sentence);
        Check.holds(name + " says: " + sentence, at >= 0);
        // the same words may stand there twice: each time they are said counts for one of them
        while (at >= 0 && s.said[at] && s.text.indexOf(sentence, at + 1) >= 0) at = s.text.indexOf(sentence, at + 1);
        for (int i = 0; i < sentence.length() && at >= 0; i++) s.said[at + i] = true;
    }

    /** For what a test prints: the promise or the term, and its sentence. */
    static String at() {
        return name + ", '" + sentence + "': ";
    }

    static void allIsSaid() {
        for (Map.Entry<String, Section> e : SECTIONS.entrySet()) {
            Section s = e.getValue();
            StringBuilder left = new StringBuilder();
            for (int i = 0; i < s.text.length(); i++) left.append(s.said[i] ? ' ' : s.text.charAt(i));
            Check.holds(e.getKey() + " has no test for: " + plain(left.toString()),
                left.chars().noneMatch(Character::isLetterOrDigit));
        }
    }
}
