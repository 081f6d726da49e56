import java.io.IOException;
import java.nio.charset.StandardCharsets;
import java.nio.file.Files;
import java.nio.file.Path;
import java.util.ArrayList;
import java.util.List;
import java.util.Map;
import java.util.TreeMap;
import java.util.regex.Matcher;
import java.util.regex.Pattern;
import java.util.stream.Collectors;
import java.util.stream.Stream;

/**
 * That each sentence of the document has its test: all that Check.says(..) quotes in the tests stands in the
 * document, and leaves nothing of it over. The arguments are the class, the document and the folder of the tests.
 */
public final class SentencesTest {
    // What no call can show: where comments stand in the interface, and headings.
    private static final String[] UNTOLD = {
        "Ahead of the calls .*? the interface says: ---- [a-z, ]+\\.", "The constants:", "what later calls answer is free\\.",
        "(POUNDS, LOCKS|BOATS|A TICK|TEXTS|HISTORY|ERRORS) ", "In a tick:", "`[^`]*\\([^`]*\\)`:?"};
    private static final Pattern QUOTE =
        Pattern.compile("Check\\.says\\((\\d+),\\s*((?:\"(?:[^\"\\\\]|\\\\.)*\"[\\s+]*)+)\\)");
    private static final Pattern LITERAL = Pattern.compile("\"((?:[^\"\\\\]|\\\\.)*)\"");

    public static void main(String[] args) throws IOException {
        Map<Integer, String> sections = sections(Files.readString(Path.of(args[1])));
        Check.due("sections: the terms and 23 promises", sections.size(), 24);
        Map<Integer, List<String>> quotes = quotes(Path.of(args[2]));
        for (int promise : sections.keySet()) {
            covered(promise, sections.get(promise), quotes.getOrDefault(promise, List.of()));
        }
        Check.end();
    }

    private static Map<Integer, String> sections(String document) {
        Map<Integer, String> sections = new TreeMap<>();
        String told = document.replaceAll("(?s)```.*?```", "").replaceAll("(?s)## Not promised.*", "");
        String[] parts = told.split("## Promise (?=\\d+:)");
        String terms = parts[0].substring(parts[0].indexOf("An object is used"));
        sections.put(0, plain(terms.replaceAll("(?m)^## .*$", "")));
        for (int i = 1; i < parts.length; i++) {
            int colon = parts[i].indexOf(':');
            String text = parts[i].substring(parts[i].indexOf('\n'));
            sections.put(Integer.parseInt(parts[i].substring(0, colon)), plain(text));
        }
        return sections;
    }

    private static String plain(String text) {
        return text.replaceAll("\\s+", " ");
    }

    private static Map<Integer, List<String>> quotes(Path folder) throws IOException {
        Map<Integer, List<String>> quotes = new TreeMap<>();
        List<Path> files;
        try (Stream<Path> all = Files.list(folder)) {
            files = all.filter(file -> file.toString().endsWith("Test.java")).sorted().collect(Collectors.toList());
        }
        for (Path file : files) {
            Matcher quote = QUOTE.matcher(Files.readString(file, StandardCharsets.UTF_8));
            while (quote.find()) {
                StringBuilder words = new StringBuilder();
                Matcher literal = LITERAL.matcher(quote.group(2));
                while (literal.find()) {
                    words.append(literal.group(1).replace("\\\"", "\""));
                }
                quotes.computeIfAbsent(Integer.parseInt(quote.group(1)), n -> new ArrayList<>()).add(words.toString());
            }
        }
        return quotes;
    }

    private static void covered(int promise, String section, List<String> quotes) {
        boolean[] told = new boolean[section.length()];
        for (String untold : UNTOLD) {
            Matcher matcher = Pattern.compile(untold).matcher(section);
            while (matcher.find()) {
                mark(told, matcher.start(), matcher.end());
            }
        }
        for (String words : quotes) {
            int at = section.indexOf(words);
            Check.due("promise " + promise + " says \"" + words + "\"", at >= 0 ? 1 : 0, 1);
            while (at >= 0) {
                mark(told, at, at + words.length());
                at = section.indexOf(words, at + 1);
            }
        }
        String left = "";
        for (int i = 0; i < told.length; i++) {
            left += told[i] ? '\t' : section.charAt(i);
        }
        for (String words : left.split("\t+")) {
            boolean hasWords = Pattern.compile("[a-zA-Z]").matcher(words).find();
            Check.due("promise " + promise + ": without a test is \"" + words + "\"", hasWords ? 1 : 0, 0);
        }
    }

    private static void mark(boolean[] told, int from, int to) {
        for (int i = from; i < to; i++) {
            told[i] = true;
        }
    }
}
