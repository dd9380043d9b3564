import java.nio.file.Files;
import java.nio.file.Path;
import java.util.ArrayList;
import java.util.List;
import java.util.Map;
import java.util.TreeMap;
import java.util.regex.Matcher;
import java.util.regex.Pattern;

/**
 * Tests of single sentences of the document. Each test quotes its sentence, which must stand in the document word by
 * word, and at the end each word there that tells of an edge must stand in a sentence that has been quoted.
 */
final class Sentences {
    static final int UNKNOWN = -1, OUTSIDE = -2, STATE = -3, FULL = -4, NONE = -9;
    static final int LEAST = Integer.MIN_VALUE, MOST = Integer.MAX_VALUE;

    private static final Path DOCUMENT = Path.of("../shared/DOC.md");
    private static final String TERMS = "Terms";
    private static final Pattern EDGE = Pattern.compile("\\b(UNKNOWN|OUTSIDE|STATE|FULL|NONE|[Nn]othing|none|no more"
        + "|at most|at least|[Aa]t first|first one|least|fewest|cut|else|wrapping|empty|refused|\\d+ to \\d+|0 or more)\\b");

    private static final Map<String, String> sections = new TreeMap<>();
    private static final Map<String, boolean[]> quoted = new TreeMap<>();
    private static String section = TERMS;
    private static String sentence = "";
    private static int told = 0;
    private static int failed = 0;
    private static boolean holds = true;

    private Sentences() {
    }

    static void readDocument() throws Exception {
        for (String part : Files.readString(DOCUMENT).split("\n## ")) {
            int line = part.indexOf('\n');
            String title = part.substring(0, line).replaceAll(":.*", "");
            sections.put(title, part.substring(line).replaceAll("\\s+", " "));
            quoted.put(title, new boolean[part.length()]);
        }
    }

    static void terms() {
        section = TERMS;
    }

    static void whatItIs() {
        section = "What it is";
    }

    static void promise(int number) {
        section = "Promise " + number;
    }

    /** A test of a sentence of the section that was named last. */
    static void test(String words, Runnable test) {
        sentence = section + ": " + words;
        holds = true;
        told++;
        markQuoted(words);
        try {
            test.run();
        } catch (RuntimeException | StackOverflowError e) {
            holds = false;
            System.out.println(sentence + ": " + e);
        }
        failed += holds ? 0 : 1;
    }

    private static void markQuoted(String words) {
        String text = sections.getOrDefault(section, "");
        int place = text.indexOf(words);
        if (place < 0 || text.indexOf(words, place + 1) >= 0) {
            holds = false;
            System.out.println(sentence + ": stands " + (place < 0 ? "nowhere" : "twice") + " in the document");
            return;
        }
        for (int i = place; i < place + words.length(); i++) {
            quoted.get(section)[i] = true;
        }
    }

    static void due(String call, long got, long want) {
        if (got != want) {
            holds = false;
            System.out.println(sentence + ": " + call + " answered " + got + ", due is " + want);
        }
    }

    static void due(String what, List<Long> got, List<Long> want) {
        if (!got.equals(want)) {
            holds = false;
            System.out.println(sentence + ": " + what + " answered " + got + ", due is " + want);
        }
    }

    /** Whether all sentences held and none that tells of an edge was left out. */
    static boolean end() {
        List<String> left = new ArrayList<>();
        for (Map.Entry<String, String> each : sections.entrySet()) {
            if (!each.getKey().equals(TERMS) && !each.getKey().startsWith("Promise")) {
                continue;
            }
            Matcher edge = EDGE.matcher(each.getValue());
            while (edge.find()) {
                if (!quoted.get(each.getKey())[edge.start()]) {
                    int from = Math.max(0, edge.start() - 40);
                    int to = Math.min(each.getValue().length(), edge.end() + 40);
                    left.add(each.getKey() + ": .." + each.getValue().substring(from, to) + "..");
                }
            }
        }
        for (String each : left) {
            System.out.println("no test quotes this edge: " + each);
        }
        System.out.println("sentences: " + told + " tested, " + failed + " do not hold, " + left.size() + " left out");
        return told > 0 && failed == 0 && left.isEmpty();
    }

    // ---- what the tests begin with

    static LastOfKind told(String text) {
        LastOfKind x = new LastOfKind();
        tell(x, text);
        return x;
    }

    static void tell(LastOfKind x, String text) {
        x.wipe();
        for (int i = 0; i < text.length(); i++) {
            x.write(text.charAt(i));
        }
    }

    static LastOfKind houseOf(String text) {
        LastOfKind x = told(text);
        due("house of " + text, x.house(), (text.length() - 2) / 9);
        return x;
    }

    /** A house of forged things: owner 0, worth 1, cost 1. */
    static LastOfKind forged(int word, int... marks) {
        LastOfKind x = houseOf("K" + word);
        for (int each : marks) {
            x.forge(each, 0);
        }
        return x;
    }

    static int marksOf(LastOfKind x, int thing) {
        return x.thing(thing, 0) * 1000 + x.thing(thing, 1) * 100 + x.thing(thing, 2) * 10 + x.thing(thing, 3);
    }
}
