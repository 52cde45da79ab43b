import java.io.IOException;
import java.nio.file.Files;
import java.nio.file.Path;
import java.util.ArrayList;
import java.util.List;
import java.util.regex.Matcher;
import java.util.regex.Pattern;
import java.util.stream.Stream;

/**
 * An aid, run by hand: which words of the document no test quotes in Due.says, and which quotes
 * do not stand in it. It is no test, since the document may be worded anew without a fault here.
 * Run it from the project: java src/test/java/Sentences.java
 */
final class Sentences {
    private static final Pattern QUOTE = Pattern.compile(
            "says\\(((?:\\s*\\+?\\s*\"(?:[^\"\\\\]|\\\\.)*\")+)\\)");
    private static final Pattern PART = Pattern.compile("\"((?:[^\"\\\\]|\\\\.)*)\"");

    public static void main(String[] args) throws IOException {
        String document = plain(Files.readString(Path.of("../shared/DOC.md")));
        boolean[] quoted = new boolean[document.length()];
        for (String quote : quotes()) {
            int at = document.indexOf(quote);
            if (at < 0) {
                System.out.println("not in the document: " + quote);
            }
            while (at >= 0) {
                java.util.Arrays.fill(quoted, at, at + quote.length(), true);
                at = document.indexOf(quote, at + 1);
            }
        }
        tellRest(document, quoted);
    }

    private static String plain(String text) {
        return text.replaceAll("(?m)^#+ .*$", " ").replaceAll("`[^`=]*\\)`:", " ")
                .replaceAll("```(text)?", " ").replaceAll("\\s+", " ").trim();
    }

    private static List<String> quotes() throws IOException {
        List<String> all = new ArrayList<>();
        try (Stream<Path> files = Files.list(Path.of("src/test/java"))) {
            for (Path file : (Iterable<Path>) files.sorted()::iterator) {
                Matcher call = QUOTE.matcher(Files.readString(file));
                while (call.find()) {
                    StringBuilder quote = new StringBuilder();
                    Matcher part = PART.matcher(call.group(1));
                    while (part.find()) {
                        quote.append(part.group(1));
                    }
                    all.add(plain(quote.toString()));
                }
            }
        }
        return all;
    }

    private static void tellRest(String document, boolean[] quoted) {
        int from = document.indexOf("1. THE STREET");
        int to = document.indexOf("How the state is held inside");
        int start = Math.max(from, 0);
        for (int i = start; i < (to < 0 ? quoted.length : to); i++) {
            if (quoted[i]) {
                tell(document.substring(start, i));
                start = i + 1;
            }
        }
    }

    private static void tell(String rest) {
        if (rest.matches(".*[A-Za-z].*")) {
            System.out.println("no test quotes: " + rest.trim());
        }
    }
}
