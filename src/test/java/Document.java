import java.io.IOException;
import java.nio.file.Files;
import java.nio.file.Path;
import java.util.ArrayList;
import java.util.HashMap;
import java.util.List;
import java.util.Map;

/** The document, to see that each of its sentences is quoted by a test, and quoted rightly. */
final class Document {
    private static final String[] TERMS = {
        "Map", "Units", "Orders", "Turns", "Sight", "Sightings", "Saves", "Exceptions",
    };

    static final Path FILE = Path.of("../shared/DOC.md");

    private final Map<String, String> parts = new HashMap<>();
    /** What has to be quoted: all sentences of the terms, all answers and exceptions of the promises. */
    private final List<Check.Quote> due = new ArrayList<>();

    Document(Path file) throws IOException {
        String part = "";
        for (String line : Files.readAllLines(file)) {
            if (line.startsWith("## ")) {
                part = line.substring(3).split(":")[0];
            } else if (part.equals("Terms")) {
                addTerm(line);
            } else if (!line.isEmpty()) {
                addLine(part, line);
            }
        }
    }

    private void addTerm(String line) {
        for (String term : TERMS) {
            if (line.startsWith(term + ". ")) {
                String text = line.substring(term.length() + 2);
                parts.put(term, text);
                for (String sentence : text.split("(?<=\\.) (?=[A-Z])")) {
                    due.add(new Check.Quote(term, sentence));
                }
                return;
            }
        }
        if (!line.isEmpty()) {
            parts.put("Terms", line);
            due.add(new Check.Quote("Terms", line));
        }
    }

    private void addLine(String part, String line) {
        parts.merge(part, line, (before, more) -> before + "\n" + more);
        if (part.startsWith("Promise ") && (line.startsWith("Returns ") || line.startsWith("Throws "))) {
            due.add(new Check.Quote(part, line));
        }
    }

    void holds(List<Check.Quote> quotes, Check check) {
        for (Check.Quote quote : quotes) {
            boolean stands = parts.getOrDefault(quote.part(), "").contains(quote.words());
            check.same("the quote of " + quote + " stands there", stands, true);
        }
    }

    void isQuotedIn(List<Check.Quote> quotes, Check check) {
        check.same("there is enough in the document", due.size() > 90, true);
        for (Check.Quote sentence : due) {
            boolean quoted = false;
            for (Check.Quote quote : quotes) {
                quoted |= quote.part().equals(sentence.part()) && sentence.words().contains(quote.words());
            }
            check.same(sentence + " is quoted by a test", quoted, true);
        }
    }
}
