import java.io.IOException;
import java.nio.file.Files;
import java.nio.file.Path;
import java.util.ArrayList;
import java.util.HashSet;
import java.util.List;
import java.util.Map;
import java.util.Set;
import java.util.TreeMap;
import java.util.TreeSet;
import java.util.regex.Matcher;
import java.util.regex.Pattern;
import java.util.stream.Stream;

/**
 * Each promise and each term has a test of its boundaries, and what these tests quote stands in the
 * document. `java SentencesTest open` also lists the parts of the document that no test quotes.
 */
public final class SentencesTest {
    private static final int PROMISES = 54;
    private static final String[] TERMS = {"I", "II", "III", "IV", "V", "VI", "VII", "VIII", "IX", "X"};
    private static final Pattern QUOTE = Pattern.compile("edge\\(\"([^\"]+)\",\\s*\"((?:[^\"\\\\]|\\\\.)*)\"\\)");

    public static void main(String[] args) throws IOException {
        Map<String, Set<String>> quotes = quotesOfTests(Path.of("src/test/java"));
        int wrong = 0;
        for (String place : allPlaces()) {
            if (!quotes.containsKey(place)) {
                wrong++;
                System.out.println(place + " has no test of its boundaries");
            }
        }
        int all = 0;
        Map<String, String> document = placesOf(Files.readString(Path.of("../shared/DOC.md")));
        for (String place : quotes.keySet()) {
            for (String quote : quotes.get(place)) {
                all++;
                // Told, not counted as wrong: the document may have been written anew since.
                if (!document.getOrDefault(place, "").contains(quote)) {
                    System.out.println("not in the document any more, " + place + ": " + quote);
                }
            }
        }
        if (args.length > 0) {
            listOpen(document, quotes);
        }
        System.out.println("SentencesTest: " + all + " sentences, " + wrong + " wrong");
        if (wrong > 0) {
            System.exit(1);
        }
    }

    private static Set<String> allPlaces() {
        Set<String> out = new TreeSet<>(List.of(TERMS));
        for (int p = 1; p <= PROMISES; p++) {
            out.add("" + p);
        }
        return out;
    }

    private static Map<String, Set<String>> quotesOfTests(Path folder) throws IOException {
        Map<String, Set<String>> out = new TreeMap<>();
        try (Stream<Path> files = Files.list(folder)) {
            for (Path file : files.filter(f -> f.toString().endsWith("EdgesTest.java")).toList()) {
                Matcher m = QUOTE.matcher(Files.readString(file));
                while (m.find()) {
                    out.computeIfAbsent(m.group(1), k -> new HashSet<>()).add(m.group(2).replace("\\\"", "\""));
                }
            }
        }
        return out;
    }

    /** The text of each promise and term (and what stands ahead of them), without line ends. */
    private static Map<String, String> placesOf(String text) {
        Map<String, String> out = new TreeMap<>();
        String place = "";
        for (String line : text.split("\n")) {
            Matcher promise = Pattern.compile("## Promise (\\d+):.*").matcher(line);
            Matcher term = Pattern.compile("([IVX]+)\\. .*").matcher(line);
            if (promise.matches()) {
                place = promise.group(1);
            } else if (line.startsWith("## ") || line.startsWith("The constants:")) {
                place = line.replaceAll("^## |:.*", "");
            } else if (term.matches()) {
                place = term.group(1);
            }
            if (!line.startsWith("#") && !line.startsWith("```")) {
                out.merge(place, line.replaceAll("\\s+", " ").strip() + " ", String::concat);
            }
        }
        return out;
    }

    private static void listOpen(Map<String, String> document, Map<String, Set<String>> quotes) {
        for (String place : allPlaces()) {
            String text = document.getOrDefault(place, "");
            boolean[] isQuoted = new boolean[text.length()];
            for (String quote : quotes.getOrDefault(place, Set.of())) {
                int at = text.indexOf(quote);
                while (at >= 0) {
                    java.util.Arrays.fill(isQuoted, at, at + quote.length(), true);
                    at = text.indexOf(quote, at + 1);
                }
            }
            List<String> open = new ArrayList<>();
            StringBuilder now = new StringBuilder();
            for (int i = 0; i <= text.length(); i++) {
                if (i < text.length() && !isQuoted[i]) {
                    now.append(text.charAt(i));
                } else if (now.length() > 0) {
                    open.add(now.toString());
                    now.setLength(0);
                }
            }
            System.out.println(place + ": " + open);
        }
    }
}
