import java.io.IOException;
import java.io.UncheckedIOException;
import java.nio.file.Files;
import java.nio.file.Path;
import java.util.BitSet;
import java.util.HashMap;
import java.util.LinkedHashMap;
import java.util.Map;

/**
 * What tests of single sentences share: each test names the promise and the words of ../shared/DOC.md that it holds.
 * The words are looked up there, and in the end no word of its promises and terms may be left without a test.
 */
abstract class Sentences {
    static final int NO_SUCH = -1, BAD_VALUE = -2, BAD_TEXT = -3, TOO_MANY = -4, NOT_POSSIBLE = -5, NONE = -6;
    static final int HOURS = 0, OVERTIME = 1, FENCE = 2, LOOK = 3, FACTOR = 4, SETUP = 5, HOLD = 6, LATE = 7, OVER = 8;
    static final int FORECAST = 0, LOTS = 1;
    static final int STOCK = 4, BACKLOG = 5, ERROR = 6, COVER = 7, TOLD = 8, MADE = 9, SHIPPED = 10, CAME = 11;
    static final int LEAST_INT = Integer.MIN_VALUE;
    static final int MOST_INT = Integer.MAX_VALUE;

    private static final Path DOCUMENT = Path.of("../shared/DOC.md");
    private static final Map<String, String> SECTIONS = sections();
    private static final Map<String, BitSet> HELD = new HashMap<>();

    private static String label = "";
    private static int answers = 1;
    private static int sentences = 0;

    /** The words stand in the section of the promise. */
    static void sentence(int promise, String words) {
        sentence(Integer.toString(promise), "Promise " + promise, words);
    }

    /** The words stand in another section; the promises are those that answer for them. */
    static void sentence(String promises, String section, String words) {
        closeSentence();
        sentences++;
        answers = 0;
        label = "promise " + promises + ", " + section + ", \"" + words + "\": ";
        hold(section, words);
    }

    /** Words in which there is no boundary case. */
    static void noBoundary(String section, String words) {
        hold(section, words);
    }

    static void due(String call, long got, long want) {
        answers++;
        Due.due(label + call, got, want);
    }

    static void same(String what, String got, String want) {
        answers++;
        Due.due(label + what + " is as due", got.equals(want) ? 1 : 0, 1);
        if (!got.equals(want)) {
            System.out.println("  it is " + got + "\n  due is " + want);
        }
    }

    static void dueRow(LotFences x, int product, int what, int... want) {
        for (int week = 0; week < want.length; week++) {
            due("at(" + product + ", " + week + ", " + what + ")", x.at(product, week, what), want[week]);
        }
    }

    /** The words of the document that no test and no noBoundary() has named are told. */
    static void end() {
        closeSentence();
        for (Map.Entry<String, String> section : SECTIONS.entrySet()) {
            String text = section.getValue();
            BitSet held = HELD.getOrDefault(section.getKey(), new BitSet());
            int from = held.nextClearBit(0);
            while (from < text.length()) {
                int to = held.nextSetBit(from);
                String left = text.substring(from, to < 0 ? text.length() : to);
                if (left.matches("(?s).*\\w.*")) {
                    Due.wrong("no test names these words of the section " + section.getKey() + ": " + left);
                }
                from = to < 0 ? text.length() : held.nextClearBit(to);
            }
        }
        System.out.println(sentences + " sentences");
    }

    static String section(String name) {
        return SECTIONS.getOrDefault(name, "");
    }

    static void row(LotFences x, int product, int from, int... forecasts) {
        for (int k = 0; k < forecasts.length; k++) {
            x.forecast(product, from + k, forecasts[k]);
        }
    }

    /** A works with one product of the family 0. */
    static LotFences one(int lotSize, int lotHours, int setupHours, int stock) {
        LotFences x = new LotFences();
        x.product(0, lotSize, lotHours, setupHours, stock);
        return x;
    }

    /** No products, but the number 0 had one with lots, forecasts, an error and a backlog before it was taken back. */
    static LotFences takenBack() {
        LotFences x = new LotFences();
        x.save(0);
        x.product(1, 2, 3, 4, 5);
        x.set(FENCE, 0);
        row(x, 0, 0, 9, 8, 7, 6, 5, 4, 3, 2, 1, 2, 3, 4);
        for (int week = 0; week < 12; week++) {
            x.lots(0, week, 1);
        }
        x.actual(0, 500);
        x.set(FENCE, 8);
        x.weeks(1);
        x.actual(0, 1);
        x.restore(0);
        return x;
    }

    static LotFences ten() {
        LotFences x = new LotFences();
        for (int product = 0; product < 10; product++) {
            x.product(product % 4, 1, 1, 0, 100 * product);
        }
        return x;
    }

    private static void closeSentence() {
        if (answers == 0) {
            Due.wrong(label + "nothing is asked");
        }
    }

    private static void hold(String section, String words) {
        String text = section(section);
        BitSet held = HELD.computeIfAbsent(section, name -> new BitSet());
        int from = text.indexOf(words);
        if (from < 0 || words.isEmpty()) {
            Due.wrong("the section " + section + " does not say: " + words);
        } else {
            held.set(from, from + words.length());
        }
    }

    /** The lines of each section joined, without marks; a promise's own line of Java is left to the tests of the face. */
    private static Map<String, String> sections() {
        Map<String, String> sections = new LinkedHashMap<>();
        String name = "";
        try {
            for (String line : Files.readAllLines(DOCUMENT)) {
                if (line.startsWith("#")) {
                    name = line.replaceFirst("^#+ ", "").replaceFirst("^(Promise \\d+):.*", "$1");
                } else {
                    String words = line.replaceFirst("^- ", "").replaceFirst("^`[^`]*\\)`: ", "").replace("`", "");
                    sections.merge(name, words, (before, more) -> (before + " " + more).replaceAll("\\s+", " ").trim());
                }
            }
        } catch (IOException e) {
            throw new UncheckedIOException(e);
        }
        return sections;
    }
}
