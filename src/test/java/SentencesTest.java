import java.io.IOException;
import java.nio.file.Path;
import java.util.ArrayList;
import java.util.List;
import java.util.Map;
import java.util.TreeMap;
import java.util.TreeSet;

/**
 * Holds the runs against the document: the words that a run under src/test/sentences is for stand in it, no words of
 * its terms and promises are left without a run, and each act is refused in the runs for all the reasons that its
 * promise lists, and for no other.
 */
public final class SentencesTest {
    /** 511 tickets are out of reach of 512 calls: EnduranceTest goes on behind those. */
    private static final String OUT_OF_REACH = "lend -7";

    private static int wrong;

    public static void main(String[] arguments) throws IOException {
        Document document = Document.read(arguments[1]);
        List<Run> runs = Run.readAll(Path.of(arguments[0], "sentences"));
        lookForWordsWithoutRuns(document, runs);
        List<Run> all = new ArrayList<>(runs);
        all.addAll(Run.readAll(Path.of(arguments[0], "runs")));
        compareReasons(reasonsListed(document), reasonsMet(all));
        System.out.println(runs.size() + " runs for the document's words, " + wrong + " faults");
        if (wrong != 0) {
            System.exit(1);
        }
    }

    private static void tell(String fault) {
        wrong++;
        System.out.println(fault);
    }

    private static void lookForWordsWithoutRuns(Document document, List<Run> runs) {
        StringBuilder left = new StringBuilder(document.text);
        for (Run run : runs) {
            String quoted = Document.words(run.words);
            int from = document.text.indexOf(headingOf(run.file));
            int at = from < 0 || quoted.isEmpty() ? -1 : document.text.indexOf(quoted, from);
            if (at < 0 || at > document.endOfSection(from)) {
                tell(run.rows.get(0).where + ": these words do not stand in its part of the document: " + quoted);
            } else {
                left.replace(at, at + quoted.length(), "~".repeat(quoted.length()));
            }
        }
        tellWordsLeft(left.toString());
    }

    /** The part of the document that a file is for, by its name: "term-2.txt", "promise-05-gold.txt". */
    private static String headingOf(String file) {
        if (file.startsWith("term-")) {
            return "==== " + file.charAt("term-".length()) + ".";
        }
        return "## Promise " + Integer.parseInt(file.substring("promise-".length(), "promise-".length() + 2)) + ":";
    }

    private static void tellWordsLeft(String left) {
        String body = left.substring(left.indexOf("## Terms") + "## Terms".length(), left.indexOf("## Not promised"));
        body = body.replaceAll("## Promise \\d+: (A new object|\\w+)", "~").replaceAll("==== \\d\\.", "~");
        body = body.replaceAll("`[^`]*`:", "~").replace("The constants:", "~");
        for (String part : body.split("~")) {
            if (part.chars().anyMatch(Character::isLetterOrDigit)) {
                tell("no run is for these words: " + part.trim());
            }
        }
    }

    private static TreeSet<String> reasonsListed(Document document) {
        TreeSet<String> listed = new TreeSet<>();
        Map<String, TreeSet<String>> promised = document.reasons();
        promised.forEach((name, reasons) -> reasons.forEach(reason -> listed.add(name + " " + reason)));
        if (promised.size() != 34) {
            tell("34 methods are promised, but seen in the document are " + promised.size());
        }
        listed.remove(OUT_OF_REACH);
        return listed;
    }

    private static Map<String, String> reasonsMet(List<Run> runs) {
        Map<String, String> met = new TreeMap<>();
        for (Run run : runs) {
            for (Run.Row row : run.rows) {
                if (row.isRefused()) {
                    met.put(row.call.name + " " + row.due, row.where);
                }
            }
        }
        return met;
    }

    private static void compareReasons(TreeSet<String> listed, Map<String, String> met) {
        for (String reason : listed) {
            if (!met.containsKey(reason)) {
                tell("no run shows " + reason);
            }
        }
        for (Map.Entry<String, String> reason : met.entrySet()) {
            if (!listed.contains(reason.getKey())) {
                tell(reason.getValue() + ": the promise does not list " + reason.getKey());
            }
        }
    }
}
