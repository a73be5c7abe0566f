import java.io.IOException;
import java.nio.file.Files;
import java.nio.file.Path;
import java.util.ArrayList;
import java.util.List;
import java.util.Map;
import java.util.TreeMap;
import java.util.regex.Matcher;
import java.util.regex.Pattern;

/** The document's promises (0: its terms), and which of their words that name a boundary have been quoted by a test. */
final class Document {
    private static final Path DOCUMENT = Path.of("../shared/DOC.md");
    private static final Pattern MARK = Pattern.compile(
        "Refused:|NONE[:,]|NONE for|NONE likewise|-\\d+:|-1 - p:|NoSuchElementException:|at most|at least|-?\\d+ \\.\\.|the ROW:"
        + "|[Nn]othing changes|of equal ones|\\(these|empty|below 0|above|more than|fewer than|others|like ones|none such|no STEPS"
        + "|too |none come|by 0|cut|put to|lowest|at first|told since|nothing kept|the first|\\b0: nobody|one by one|none;");

    private final Map<Integer, String> sections = new TreeMap<>();
    private final Map<Integer, boolean[]> quoted = new TreeMap<>();

    Document() {
        String text;
        try {
            text = Files.readString(DOCUMENT);
        } catch (IOException e) {
            throw new IllegalStateException("no " + DOCUMENT, e);
        }
        for (String part : text.split("(?m)^## ")) {
            Matcher promise = Pattern.compile("^Promise (\\d+): ").matcher(part);
            if (promise.find()) {
                put(Integer.parseInt(promise.group(1)), part.substring(promise.end()));
            } else if (part.startsWith("Terms")) {
                put(0, part.substring(0, part.indexOf("Ahead of the calls")));
            }
        }
    }

    private void put(int number, String text) {
        String words = text.replaceAll("\\s+", " ");
        sections.put(number, words);
        quoted.put(number, new boolean[words.length()]);
    }

    /** Whether a promise has these words; they count as quoted then. */
    boolean quote(int number, String words) {
        String text = sections.getOrDefault(number, "");
        int at = text.indexOf(words);
        boolean found = at >= 0;
        while (at >= 0) {
            for (int i = at; i < at + words.length(); i++) {
                quoted.get(number)[i] = true;
            }
            at = text.indexOf(words, at + 1);
        }
        return found;
    }

    /** What of some promises names a boundary and has not been quoted. */
    List<String> notQuoted(int first, int last) {
        List<String> left = new ArrayList<>();
        for (int number = first; number <= last; number++) {
            String text = sections.getOrDefault(number, "");
            if (text.isEmpty()) {
                left.add(number + " is not in the document");
            }
            Matcher mark = MARK.matcher(text);
            while (mark.find()) {
                if (!quoted.get(number)[mark.start()]) {
                    int end = Math.min(text.length(), mark.start() + 60);
                    left.add(number + ": " + text.substring(mark.start(), end));
                }
            }
        }
        return left;
    }
}
