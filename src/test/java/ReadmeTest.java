import java.io.IOException;
import java.nio.file.Files;
import java.nio.file.Path;
import java.util.List;
import java.util.Map;
import java.util.TreeSet;
import java.util.regex.Matcher;
import java.util.regex.Pattern;

/** README.md tells the truth: its runs answer as it says, and its tables have each method with the document's reasons. */
public final class ReadmeTest {
    private static final String NEW = "PledgeHouse house = new PledgeHouse();";
    private static final Pattern ROW = Pattern.compile("house\\.(\\w+\\(.*?\\)); *// (-?\\d+)(:.*)?");

    private static int wrong;
    private static int calls;

    public static void main(String[] arguments) throws IOException {
        List<String> page = Files.readAllLines(Path.of(arguments[0], "..", "..", "README.md"));
        callRuns(page);
        lookAtTables(page, Document.read(arguments[1]));
        System.out.println(calls + " calls of README.md, " + wrong + " faults");
        if (wrong != 0 || calls == 0) {
            System.exit(1);
        }
    }

    private static void tell(String fault) {
        wrong++;
        System.out.println(fault);
    }

    private static void callRuns(List<String> page) {
        PledgeHouse house = null;
        boolean isInside = false;
        for (String line : page) {
            if (line.startsWith("```")) {
                isInside = line.equals("```java");
                house = null;
            } else if (isInside && line.equals(NEW)) {
                house = new PledgeHouse();
            } else if (isInside) {
                callRow(house, line);
            }
        }
    }

    private static void callRow(PledgeHouse house, String line) {
        Matcher row = ROW.matcher(line);
        if (house == null || !row.matches()) {
            tell("no call with its answer: " + line);
            return;
        }
        calls++;
        String got = Call.read(row.group(1)).answerOf(house);
        if (!got.equals(row.group(2))) {
            tell("answered " + got + ": " + line);
        }
    }

    private static void lookAtTables(List<String> page, Document document) {
        for (Map.Entry<String, TreeSet<String>> promised : document.reasons().entrySet()) {
            String start = "| `" + promised.getKey() + "(";
            List<String> rows = page.stream().filter(line -> line.startsWith(start)).toList();
            if (rows.size() != 1) {
                tell(rows.size() + " rows for " + promised.getKey());
            } else if (!reasonsOf(rows.get(0)).equals(promised.getValue())) {
                tell("not refused as promised: " + rows.get(0));
            }
        }
    }

    /** A look's row has no column of reasons. */
    private static TreeSet<String> reasonsOf(String row) {
        String[] columns = row.split("\\|");
        return columns.length == 5 ? Document.reasonsIn(columns[4]) : new TreeSet<>();
    }
}
