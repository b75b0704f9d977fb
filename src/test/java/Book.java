import java.io.IOException;
import java.io.UncheckedIOException;
import java.nio.file.Files;
import java.nio.file.Path;
import java.util.ArrayList;
import java.util.BitSet;
import java.util.LinkedHashMap;
import java.util.List;
import java.util.Map;
import java.util.regex.Matcher;
import java.util.regex.Pattern;

// The document, section by section, and which of its words have been quoted by a test.
final class Book {
    private static final Path DOC = Path.of("../shared/DOC.md");
    private static final String EXAMPLES = "Examples:", CONSTANTS = "The constants:", REST = "The constructor and the methods follow";

    private final Map<String, String> texts = new LinkedHashMap<>();
    private final Map<String, BitSet> quoted = new LinkedHashMap<>();
    private final String examples;

    Book() {
        String all;
        try {
            all = Files.readString(DOC);
        } catch (IOException e) {
            throw new UncheckedIOException(e);
        }
        String[] sections = all.split("(?m)^## ");
        String description = "";
        for (String section : sections) {
            String title = section.lines().findFirst().orElse("").strip();
            String body = section.substring(Math.min(section.length(), title.length()));
            Matcher promise = Pattern.compile("(Promise \\d+): .*").matcher(title);
            if (title.equals("Description")) description = body;
            if (title.equals("What it is")) put(title, body);
            if (promise.matches()) put(promise.group(1), body);
        }
        int examplesAt = description.indexOf(EXAMPLES);
        int constantsAt = description.indexOf(CONSTANTS);
        put("Description", description.substring(0, examplesAt));
        examples = description.substring(examplesAt, constantsAt);
        put("Constants", description.substring(constantsAt + CONSTANTS.length(), description.indexOf(REST)));
    }

    private void put(String title, String body) {
        StringBuilder text = new StringBuilder();
        for (String line : body.split("\n")) {
            boolean heading = line.matches("`[^`]*`") || line.startsWith("---- ") || line.matches("[A-Z]+\\.");
            if (!heading) text.append(line).append(' ');
        }
        texts.put(title, plain(text.toString()));
        quoted.put(title, new BitSet());
    }

    private static String plain(String text) {
        return text.replaceAll("\\s+", " ").strip();
    }

    int promises() {
        return (int) texts.keySet().stream().filter(title -> title.startsWith("Promise ")).count();
    }

    // Whether the section says so, word for word.
    boolean quote(String section, String words) {
        String text = texts.getOrDefault(section, "");
        String sought = plain(words);
        int found = text.indexOf(sought);
        boolean isThere = found >= 0;
        while (found >= 0) {
            quoted.get(section).set(found, found + sought.length());
            found = text.indexOf(sought, found + 1);
        }
        return isThere;
    }

    // What no test has quoted, as long as it holds a letter or a digit.
    List<String> unquoted() {
        List<String> rest = new ArrayList<>();
        for (Map.Entry<String, String> entry : texts.entrySet()) {
            String text = entry.getValue();
            BitSet done = quoted.get(entry.getKey());
            for (int from = done.nextClearBit(0); from < text.length(); ) {
                int next = done.nextSetBit(from);
                int to = next < 0 ? text.length() : next;
                String piece = text.substring(from, to);
                if (piece.matches(".*[A-Za-z0-9].*")) rest.add(entry.getKey() + ": " + piece.strip());
                from = done.nextClearBit(to);
            }
        }
        return rest;
    }

    // The calls of each of the document's examples, as it writes them.
    List<String> examples() {
        List<String> scripts = new ArrayList<>();
        Matcher m = Pattern.compile("(?m)^\\d+\\. .*: (.*)\\.$").matcher(examples);
        while (m.find()) scripts.add(m.group(1));
        return scripts;
    }
}
