import java.io.IOException;
import java.nio.file.Files;
import java.nio.file.Path;
import java.util.ArrayList;
import java.util.List;
import java.util.Set;
import java.util.regex.Matcher;
import java.util.regex.Pattern;

/** ../shared/DOC.md, its sentences, and which of them have been quoted. */
final class Document {
    private static final int PROMISES = 32;

    /** What is only a heading, or is told again where it is said in full. */
    private static final Set<String> WITHOUT_A_BOUNDARY = Set.of(
        "Nine pounds over:",
        "people at a counter with cases of a limit each, things of kinds that are in them, coats that may be worn, sharp ones that"
            + " may not be in each, glass that wants something soft, food that may be eaten, shirts that each must have;",
        "what each case weighs, what is paid by a rule in a language for what is over;",
        "things shifted, worn, thrown away, posted, undone;",
        "the fewest shifts between two, the fewest cases opened so that all go, what to pay for, leave and post;",
        "weights that are not sure, how likely it goes, what to weigh;",
        "what if one case is lost;",
        "heat, shares of what is carried, looks at a bag;",
        "which shift fits weights that were seen, a counter by a seed.",
        "what later calls answer is free.",
        "LOOKS:", "FEE:", "a rule.", "TOKENS:", "LINE:", "THE BILL.", "LAWFUL.", "UNSURE:", "FITS:", "TO WEAR:", "The constants:",
        "Of a PERSON:", "Of a CASE:", "Of a THING:", "BETWEEN TWO:", "OPENED:", "FOR ONE CASE:", "TO WEIGH:", "A COUNTER:",
        "CARRIED:", "A LOOK:", "BEST SHIFT:");

    /** What it is and Terms at 0, then the promises. */
    private final String[] parts = new String[PROMISES + 1];
    private final boolean[][] quoted = new boolean[PROMISES + 1][];
    private final int[] quotes = new int[PROMISES + 1];

    static Document read() {
        try {
            return new Document(Files.readString(Path.of("../shared/DOC.md")));
        } catch (IOException e) {
            throw new IllegalStateException(e);
        }
    }

    private Document(String text) {
        Matcher m = Pattern.compile("(?m)^## (.*)$").matcher(text);
        List<Integer> starts = new ArrayList<>();
        List<String> names = new ArrayList<>();
        while (m.find()) {
            starts.add(m.start());
            names.add(m.group(1));
        }
        starts.add(text.length());
        StringBuilder terms = new StringBuilder();
        for (int i = 0; i < names.size(); i++) {
            String part = text.substring(starts.get(i), starts.get(i + 1)).replaceFirst("## .*", "");
            Matcher promise = Pattern.compile("Promise (\\d+): .*").matcher(names.get(i));
            if (promise.matches()) {
                parts[Integer.parseInt(promise.group(1))] = plain(part);
            } else if (names.get(i).equals("What it is") || names.get(i).equals("Terms")) {
                terms.append(part);
            }
        }
        parts[0] = plain(terms.toString());
        for (int i = 0; i <= PROMISES; i++) {
            quoted[i] = new boolean[parts[i].length()];
        }
    }

    private static String plain(String part) {
        return part.replaceAll("```(text)?", " ").replaceAll("==== \\d+\\.", " ").replaceAll("\\s+", " ").trim();
    }

    boolean quote(int promise, String sentence) {
        quotes[promise]++;
        return mark(promise, sentence) | mark(0, sentence);
    }

    private boolean mark(int part, String sentence) {
        int at = parts[part].indexOf(sentence);
        if (at < 0) {
            return false;
        }
        for (int i = at; i < at + sentence.length(); i++) {
            quoted[part][i] = true;
        }
        return true;
    }

    /** A promise without a quote, and a sentence that is neither quoted nor without a boundary, count as wrong. */
    void tellWhatIsLeft() {
        for (int i = 0; i <= PROMISES; i++) {
            if (i > 0 && quotes[i] == 0) {
                Check.failed("Promise " + i + " is not quoted");
            }
            int from = 0;
            for (String sentence : parts[i].split("(?<=[.;:] )")) {
                boolean any = false;
                for (int j = from; j < from + sentence.length(); j++) {
                    any |= quoted[i][j];
                }
                from += sentence.length();
                boolean face = i > 0 && sentence.startsWith("`");
                if (!any && !face && !WITHOUT_A_BOUNDARY.contains(sentence.trim())) {
                    Check.failed("under " + i + " nothing is quoted of: " + sentence.trim());
                }
            }
        }
    }
}
