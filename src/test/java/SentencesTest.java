import java.io.IOException;
import java.nio.file.Files;
import java.nio.file.Path;
import java.util.ArrayList;
import java.util.List;
import java.util.Map;
import java.util.TreeMap;
import java.util.TreeSet;
import java.util.regex.Matcher;
import java.util.regex.Pattern;

/**
 * Holds the runs against the document: the words that a run under src/test/sentences is for stand in it, no words of
 * its terms and promises are left without a run, and each act is refused in the runs for all the reasons that its
 * promise lists, and for no other.
 */
public final class SentencesTest {
    private static final Pattern PROMISE = Pattern.compile("## Promise \\d+: \\w+ `\\w+ (\\w+)\\(.*?\\)`: (.*?)(?=##)");
    private static final Pattern HEADING = Pattern.compile("==== \\d\\.|## ");
    private static final Pattern REASON = Pattern.compile("(?<![\\w.])-[1-7](?!\\d)");

    /** 511 tickets are out of reach of 512 calls: EnduranceTest goes on behind those. */
    private static final String OUT_OF_REACH = "lend -7";

    private static int wrong;

    public static void main(String[] arguments) throws IOException {
        String document = words(Files.readString(Path.of(arguments[1])));
        List<Run> runs = Run.readAll(Path.of(arguments[0], "sentences"));
        lookForWordsWithoutRuns(document, runs);
        List<Run> all = new ArrayList<>(runs);
        all.addAll(Run.readAll(Path.of(arguments[0], "runs")));
        compareReasons(reasonsListed(document), reasonsMet(all));
        System.out.println(runs.size() + " runs for the document's words, " + wrong + " faults");
        if (wrong != 0) {
            System.exit(1);
        }
    }

    private static void tell(String fault) {
        wrong++;
        System.out.println(fault);
    }

    private static String words(String text) {
        return text.replaceAll("(?m)^```.*$", " ").replaceAll("\\s+", " ").trim();
    }

    private static void lookForWordsWithoutRuns(String document, List<Run> runs) {
        StringBuilder left = new StringBuilder(document);
        for (Run run : runs) {
            String quoted = words(run.words);
            int from = document.indexOf(headingOf(run.file));
            int at = from < 0 || quoted.isEmpty() ? -1 : document.indexOf(quoted, from);
            if (at < 0 || at > endOfSection(document, from)) {
                tell(run.rows.get(0).where + ": these words do not stand in its part of the document: " + quoted);
            } else {
                left.replace(at, at + quoted.length(), "~".repeat(quoted.length()));
            }
        }
        tellWordsLeft(left.toString());
    }

    /** The part of the document that a file is for, by its name: "term-2.txt", "promise-05-gold.txt". */
    private static String headingOf(String file) {
        if (file.startsWith("term-")) {
            return "==== " + file.charAt("term-".length()) + ".";
        }
        return "## Promise " + Integer.parseInt(file.substring("promise-".length(), "promise-".length() + 2)) + ":";
    }

    private static int endOfSection(String document, int from) {
        Matcher heading = HEADING.matcher(document);
        return heading.find(from + 1) ? heading.start() : document.length();
    }

    private static void tellWordsLeft(String left) {
        String body = left.substring(left.indexOf("## Terms") + "## Terms".length(), left.indexOf("## Not promised"));
        body = body.replaceAll("## Promise \\d+: (A new object|\\w+)", "~").replaceAll("==== \\d\\.", "~");
        body = body.replaceAll("`[^`]*`:", "~").replace("The constants:", "~");
        for (String part : body.split("~")) {
            if (part.chars().anyMatch(Character::isLetterOrDigit)) {
                tell("no run is for these words: " + part.trim());
            }
        }
    }

    private static TreeSet<String> reasonsListed(String document) {
        TreeSet<String> listed = new TreeSet<>();
        Matcher promise = PROMISE.matcher(document);
        int acts = 0;
        while (promise.find()) {
            acts++;
            Matcher reason = REASON.matcher(promise.group(2));
            while (reason.find()) {
                listed.add(promise.group(1) + " " + reason.group());
            }
        }
        if (acts != 34) {
            tell("34 methods are promised, but seen in the document are " + acts);
        }
        listed.remove(OUT_OF_REACH);
        return listed;
    }

    private static Map<String, String> reasonsMet(List<Run> runs) {
        Map<String, String> met = new TreeMap<>();
        for (Run run : runs) {
            for (Run.Row row : run.rows) {
                if (row.isRefused()) {
                    met.put(row.call.name + " " + row.due, row.where);
                }
            }
        }
        return met;
    }

    private static void compareReasons(TreeSet<String> listed, Map<String, String> met) {
        for (String reason : listed) {
            if (!met.containsKey(reason)) {
                tell("no run shows " + reason);
            }
        }
        for (Map.Entry<String, String> reason : met.entrySet()) {
            if (!listed.contains(reason.getKey())) {
                tell(reason.getValue() + ": the promise does not list " + reason.getKey());
            }
        }
    }
}
