import java.io.IOException;
import java.nio.file.Files;
import java.nio.file.Path;
import java.util.ArrayList;
import java.util.LinkedHashMap;
import java.util.List;
import java.util.Map;
import java.util.TreeSet;
import java.util.regex.Matcher;
import java.util.regex.Pattern;

/** The sentences of ../shared/DOC.md, and which parts of them the tests quote. */
final class Document {
    static final Path FILE = Path.of("../shared/DOC.md");
    private static final Pattern HEADING = Pattern.compile("## (.*)");
    private static final Pattern PROMISE = Pattern.compile("Promise ([0-9]+): .*");
    private static final int NOT_A_PROMISE = -1;

    /** A sentence of a promise, or of what stands ahead of all of them (promise 0). */
    static final class Sentence {
        final int promise;
        final String text;
        final boolean[] quoted;
        final TreeSet<Integer> quotedFor = new TreeSet<>();

        Sentence(int promise, String text) {
            this.promise = promise;
            this.text = text;
            quoted = new boolean[text.length()];
        }

        /** The words that no test quotes; empty if there are none. */
        String rest() {
            StringBuilder rest = new StringBuilder();
            for (int i = 0; i < text.length(); i++) {
                rest.append(quoted[i] ? ' ' : text.charAt(i));
            }
            return rest.toString().replaceAll("[^A-Za-z0-9]+", " ").trim();
        }
    }

    private final Map<String, Sentence> sentences = new LinkedHashMap<>();

    static Document read() throws IOException {
        Document document = new Document();
        int promise = NOT_A_PROMISE;
        for (String line : Files.readAllLines(FILE)) {
            Matcher heading = HEADING.matcher(line);
            if (heading.matches()) {
                promise = promiseOf(heading.group(1));
            } else if (promise != NOT_A_PROMISE && !line.startsWith("#")) {
                document.addSentences(promise, line);
            }
        }
        return document;
    }

    private static int promiseOf(String heading) {
        Matcher promise = PROMISE.matcher(heading);
        if (promise.matches()) {
            return Integer.parseInt(promise.group(1));
        }
        return heading.equals("Terms") || heading.equals("What it is") ? 0 : NOT_A_PROMISE;
    }

    /** A line begins with the signature that it is about, with a sign of a list, or with neither. */
    private void addSentences(int promise, String line) {
        String text = line.replaceFirst("^- ", "").replaceFirst("^`[^`]*\\)`: ", "").trim();
        for (String sentence : text.split("(?<=\\.|\\.\\))\\s+(?=[A-Z(])")) {
            if (!sentence.isEmpty()) {
                sentences.put(promise + " " + sentence, new Sentence(promise, sentence));
            }
        }
    }

    List<Sentence> sentences() {
        return new ArrayList<>(sentences.values());
    }

    /** Whether such a sentence stands in a promise's section, or ahead of all; a part in < and > is quoted alone. */
    boolean quote(int promise, String says) {
        String text = says.replaceAll("[<>]", "");
        Sentence sentence = sentences.get(promise + " " + text);
        if (sentence == null) {
            sentence = sentences.get("0 " + text);
        }
        if (sentence == null) {
            return false;
        }
        sentence.quotedFor.add(promise);
        boolean marked = says.indexOf('<') < 0;
        int at = 0;
        for (char c : says.toCharArray()) {
            if (c == '<' || c == '>') {
                marked = c == '<';
            } else {
                sentence.quoted[at] |= marked;
                at++;
            }
        }
        return true;
    }
}
