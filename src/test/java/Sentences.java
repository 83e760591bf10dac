import java.io.IOException;
import java.nio.file.Files;
import java.nio.file.Path;
import java.util.ArrayList;
import java.util.Arrays;
import java.util.LinkedHashMap;
import java.util.List;
import java.util.Map;
import java.util.regex.Matcher;
import java.util.regex.Pattern;

/** Tests sentence by sentence: what is checked stands under the place in the document and the words that it is there for. */
final class Sentences {
    /** Words by which a sentence of the document names a bound. */
    private static final Pattern BOUND = Pattern.compile("UNKNOWN|OUTSIDE|\\bNOT\\b|FULL|NONE|\\bno\\b|\\.\\.|at most|at first|empty|gone|over");

    private final Due due = new Due("BoundsTest");
    private final Map<String, List<String>> quotes = new LinkedHashMap<>();
    private String heading;
    private int checks;

    /** What is checked from now on stands for these words: the whole of a sentence, or the part that names the bound. */
    void of(String place, String words) {
        endHeading();
        heading = place + ", \"" + words + "\"";
        quotes.computeIfAbsent(place, none -> new ArrayList<>()).add(words);
    }

    void is(String what, long got, long want) {
        checks++;
        due.is(heading + ": " + what, got, want);
    }

    void same(String what, String got, String want) {
        checks++;
        due.same(heading + ": " + what, got, want);
    }

    private void endHeading() {
        if (heading != null) {
            due.is(heading + ": has a check at least", checks > 0 ? 1 : 0, 1);
        }
        heading = null;
        checks = 0;
    }

    void end(String[] args) throws IOException {
        endHeading();
        Path doc = Path.of(args.length > 0 ? args[0] : "../shared/DOC.md");
        if (Files.isRegularFile(doc)) {
            compareWith(Files.readString(doc));
        } else {
            System.out.println("BoundsTest: no document at " + doc + ", the words are not compared with it");
        }
        due.end();
    }

    // ---- the words are the document's, and no bound of it is left out

    private void compareWith(String doc) {
        for (String place : quotes.keySet()) {
            due.is("the document has the place " + place, sectionOf(doc, place).isEmpty() ? 0 : 1, 1);
            for (String words : quotes.get(place)) {
                due.is(place + " of the document has the words \"" + words + "\"", sectionOf(doc, place).contains(words) ? 1 : 0, 1);
            }
        }
        for (String place : List.of("Terms", "Terms 1", "Terms 2", "Terms 3")) {
            everyBoundIsTested(place, sectionOf(doc, place), BOUND);
        }
        for (int promise = 1; promise <= 34; promise++) {
            // Of a promise every word behind its signature.
            String place = "Promise " + promise;
            everyBoundIsTested(place, sectionOf(doc, place).replaceFirst("^.*?`: ", ""), Pattern.compile("\\w+"));
        }
    }

    private void everyBoundIsTested(String place, String section, Pattern bound) {
        boolean[] tested = new boolean[section.length()];
        for (String words : quotes.getOrDefault(place, List.of())) {
            for (int at = section.indexOf(words); at >= 0; at = section.indexOf(words, at + 1)) {
                for (int i = at; i < at + words.length(); i++) {
                    tested[i] = true;
                }
            }
        }
        Matcher matcher = bound.matcher(section);
        while (matcher.find()) {
            String around = section.substring(Math.max(0, matcher.start() - 30), Math.min(section.length(), matcher.end() + 30));
            due.is(place + ": a test stands for \"" + matcher.group() + "\" in \".." + around + "..\"", tested[matcher.start()] ? 1 : 0, 1);
        }
    }

    private static String sectionOf(String doc, String place) {
        return switch (place) {
            case "Terms" -> between(doc, "\n## Terms", "\n======== 1 ");
            case "Terms 1" -> between(doc, "\n======== 1 ", "\n======== 2 ");
            case "Terms 2" -> between(doc, "\n======== 2 ", "\n======== 3 ");
            case "Terms 3" -> between(doc, "\n======== 3 ", "\nAhead of the calls");
            case "What it is" -> between(doc, "\n## What it is", "\n## ");
            default -> between(doc, "\n## " + place + ":", "\n## ");
        };
    }

    /** What stands between, each run of blanks and ends of lines as one blank. */
    private static String between(String doc, String from, String to) {
        int start = doc.indexOf(from);
        int end = start < 0 ? -1 : doc.indexOf(to, start + from.length());
        return end < 0 ? "" : doc.substring(start + from.length(), end).replaceAll("```\\w*", " ").replaceAll("\\s+", " ");
    }

    // ---- what many of the tests need

    /** Numbers that are none of 0 .. count less 1: the next ones, such as are like a right one by their last bits, the ends. */
    static int[] beyond(int count) {
        int[] all = {-1, -2, -3, -31, -32, -33, -64, -256, count, count + 1, 31, 32, 33, 63, 64, 65, 127, 128, 255, 256, 257, 65536,
            1 << 30, Integer.MAX_VALUE, Integer.MAX_VALUE - 1, Integer.MIN_VALUE, Integer.MIN_VALUE + 1};
        return Arrays.stream(all).filter(i -> i < 0 || i >= count).distinct().toArray();
    }

    /** The seed behind so many draws. */
    static long seedAfter(long seed, int draws) {
        long drawn = seed;
        for (int i = 0; i < draws; i++) {
            drawn = (drawn * 1103515245L + 12345L) % 2147483648L;
        }
        return drawn;
    }

    /** What the k-th draw (from 1 on) from that seed gives, of n. */
    static int draw(long seed, int k, int n) {
        return (int) (seedAfter(seed, k) / 65536 % n);
    }
}
