import java.io.IOException;
import java.nio.file.Files;
import java.nio.file.Path;
import java.util.ArrayList;
import java.util.Arrays;
import java.util.LinkedHashMap;
import java.util.List;
import java.util.Map;

/** The sentences of the document that have a test, by the parts of the document in which they stand. */
final class Sentences {
    private static final Map<String, List<String>> QUOTED = new LinkedHashMap<>();
    private static String part = "";

    private Sentences() {
    }

    /** The sentences that come from here on stand in this part: "Terms", "Promise 1" and so on. */
    static void part(String name) {
        part = name;
    }

    static void sentence(String quote, Runnable test) {
        QUOTED.computeIfAbsent(part, name -> new ArrayList<>()).add(quote);
        Expect.about(part + ": " + quote);
        test.run();
        Expect.about("");
    }

    /** All that is quoted has to stand in the document, and all that its promises and terms say to be quoted. */
    static void compareWith(Path document) throws IOException {
        Map<String, String> parts = partsOf(Files.readAllLines(document));
        for (String name : QUOTED.keySet()) {
            if (!parts.containsKey(name)) {
                Expect.say("the document has no part " + name);
            }
        }
        parts.forEach((name, words) -> compare(name, words, QUOTED.getOrDefault(name, List.of())));
    }

    private static Map<String, String> partsOf(List<String> lines) {
        Map<String, String> parts = new LinkedHashMap<>();
        String name = "";
        for (String line : lines) {
            if (line.startsWith("## ")) {
                name = line.substring(3).replaceAll(":.*", "");
            } else if (name.equals("Terms") || name.startsWith("Promise ")) {
                parts.merge(name, wordsOf(line), (before, more) -> (before + " " + more).trim());
            }
        }
        return parts;
    }

    /** Without headings, the calls' places in the interface, marks of lists and signatures (FaceTest has these). */
    private static String wordsOf(String line) {
        if (line.equals(line.toUpperCase()) || line.startsWith("Ahead of the calls ")) {
            return "";
        }
        return line.replaceAll("^`[^`]*\\([^`]*\\)`: ", "").replaceAll("^- ", "").trim();
    }

    private static void compare(String name, String words, List<String> quotes) {
        boolean[] isQuoted = new boolean[words.length()];
        for (String quote : quotes) {
            int at = words.indexOf(quote);
            if (at < 0) {
                Expect.say(name + " does not say: " + quote);
                continue;
            }
            Arrays.fill(isQuoted, at, at + quote.length(), true);
        }
        StringBuilder rest = new StringBuilder();
        for (int i = 0; i < isQuoted.length; i++) {
            rest.append(isQuoted[i] ? '\n' : words.charAt(i));
        }
        for (String unquoted : rest.toString().split("\n+")) {
            if (unquoted.matches(".*\\w.*")) {
                Expect.say(name + " says what has no test: " + unquoted.trim());
            }
        }
    }
}
