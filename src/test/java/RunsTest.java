import java.io.IOException;
import java.nio.file.Files;
import java.nio.file.Path;
import java.util.List;
import java.util.TreeSet;

/**
 * The runs under src/test/runs, one file for each promise, its number ahead of its name. A row is a call
 * and the answer that is due; a row "new" makes a new object; what is behind a # is a remark.
 */
public final class RunsTest {
    private static final int PROMISES = 35;
    private static final int MOST_CALLS = 512;

    private static int wrong;
    private static int rows;

    public static void main(String[] arguments) throws IOException {
        TreeSet<Path> files = new TreeSet<>();
        try (var listed = Files.list(Path.of(arguments[0]))) {
            listed.filter(file -> file.toString().endsWith(".txt")).forEach(files::add);
        }
        for (int promise = 1; promise <= PROMISES; promise++) {
            lookForPromise(files, String.format("%02d-", promise));
        }
        for (Path file : files) {
            runFile(file.getFileName().toString(), Files.readAllLines(file));
        }
        System.out.println(rows + " calls of " + files.size() + " files, " + wrong + " wrong");
        if (wrong != 0) {
            System.exit(1);
        }
    }

    private static void lookForPromise(TreeSet<Path> files, String start) {
        if (files.stream().noneMatch(file -> file.getFileName().toString().startsWith(start))) {
            wrong++;
            System.out.println("no runs for promise " + start);
        }
    }

    private static void runFile(String file, List<String> lines) {
        PledgeHouse house = new PledgeHouse();
        int calls = 0;
        for (int i = 0; i < lines.size(); i++) {
            String line = lines.get(i).replaceFirst("#.*", "").trim();
            if (line.equals("new")) {
                house = new PledgeHouse();
                calls = 0;
            } else if (!line.isEmpty()) {
                calls++;
                runRow(file + ":" + (i + 1), house, line);
            }
            if (calls > MOST_CALLS) {
                throw new IllegalArgumentException(file + ": a run of more calls than promised");
            }
        }
    }

    private static void runRow(String where, PledgeHouse house, String line) {
        int split = line.lastIndexOf('=');
        if (split < 0) {
            throw new IllegalArgumentException(where + ": no answer is due");
        }
        Call call = Call.read(line.substring(0, split).trim());
        String due = line.substring(split + 1).trim();
        String got = call.answerOf(house);
        rows++;
        if (!got.equals(due)) {
            wrong++;
            System.out.println(where + ": " + call + " answered " + got + ", due is " + due);
        }
    }
}
