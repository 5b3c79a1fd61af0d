import java.io.IOException;
import java.nio.file.Files;
import java.nio.file.Path;
import java.util.Map;
import java.util.TreeMap;
import java.util.TreeSet;
import java.util.regex.Matcher;
import java.util.regex.Pattern;

/** What the tests read out of the document: its words, the face, and why each act may be refused. */
final class Document {
    private static final Pattern PROMISE = Pattern.compile("## Promise \\d+: \\w+ `\\w+ (\\w+)\\(.*?\\)`: (.*?)(?=##)");
    private static final Pattern HEADING = Pattern.compile("==== \\d\\.|## ");
    private static final Pattern METHOD = Pattern.compile("public (\\w+ \\w+)\\((.*?)\\);");
    private static final Pattern REASON = Pattern.compile("(?<![\\w.])-[1-7](?!\\d)");

    /** On one line, without what is only there for its look. */
    final String text;

    private Document(String text) {
        this.text = text;
    }

    static Document read(String file) throws IOException {
        return new Document(words(Files.readString(Path.of(file))));
    }

    static String words(String text) {
        return text.replaceAll("(?m)^```.*$", " ").replaceAll("\\s+", " ").trim();
    }

    int endOfSection(int from) {
        Matcher heading = HEADING.matcher(text);
        return heading.find(from + 1) ? heading.start() : text.length();
    }

    /** Each method of the face as "int gold(int,float,int)". */
    TreeSet<String> face() {
        TreeSet<String> face = new TreeSet<>();
        int from = text.indexOf("## The public face");
        if (from >= 0) {
            Matcher method = METHOD.matcher(text).region(from, endOfSection(from));
            while (method.find()) {
                face.add(method.group(1) + "(" + method.group(2).replaceAll(" \\w+(?=,|$)", "").replace(" ", "") + ")");
            }
        }
        return face;
    }

    /** By the promised methods' names the reasons that their promises list. */
    Map<String, TreeSet<String>> reasons() {
        Map<String, TreeSet<String>> listed = new TreeMap<>();
        Matcher promise = PROMISE.matcher(text);
        while (promise.find()) {
            listed.put(promise.group(1), reasonsIn(promise.group(2)));
        }
        return listed;
    }

    static TreeSet<String> reasonsIn(String text) {
        TreeSet<String> reasons = new TreeSet<>();
        Matcher reason = REASON.matcher(text);
        while (reason.find()) {
            reasons.add(reason.group());
        }
        return reasons;
    }
}
