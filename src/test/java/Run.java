import java.io.IOException;
import java.nio.file.Files;
import java.nio.file.Path;
import java.util.ArrayList;
import java.util.List;
import java.util.TreeSet;

/**
 * A run of calls on a new object, each with the answer that is due. In its file a row is "call = answer"; a row "new"
 * begins the next run; a row "> words" begins one too and says which words of the document it and the runs behind it
 * are for; what is behind a # is a remark.
 */
final class Run {
    static final int MOST_CALLS = 512;

    static final class Row {
        final String where;
        final Call call;
        final String due;

        Row(String where, String text) {
            int split = text.lastIndexOf('=');
            if (split < 0) {
                throw new IllegalArgumentException(where + ": no answer is due");
            }
            this.where = where;
            call = Call.read(text.substring(0, split).trim());
            due = text.substring(split + 1).trim();
        }

        /** An act answers below 0 only when it is refused. */
        boolean isRefused() {
            return !call.isLooking() && due.startsWith("-");
        }
    }

    /** The document's words that the run is for, or none. */
    final String words;
    final String file;
    final List<Row> rows = new ArrayList<>();

    private Run(String file, String words) {
        this.file = file;
        this.words = words;
    }

    static List<Run> readAll(Path directory) throws IOException {
        TreeSet<Path> files = new TreeSet<>();
        try (var listed = Files.list(directory)) {
            listed.filter(file -> file.toString().endsWith(".txt")).forEach(files::add);
        }
        List<Run> runs = new ArrayList<>();
        for (Path file : files) {
            readFile(file, runs);
        }
        return runs;
    }

    private static void readFile(Path path, List<Run> runs) throws IOException {
        String file = path.getFileName().toString();
        List<String> lines = Files.readAllLines(path);
        Run run = new Run(file, "");
        for (int i = 0; i < lines.size(); i++) {
            String where = file + ":" + (i + 1);
            String line = lines.get(i).trim();
            if (line.startsWith(">")) {
                run.addTo(runs);
                run = new Run(file, line.substring(1).trim());
                continue;
            }
            line = line.replaceFirst("#.*", "").trim();
            if (line.equals("new")) {
                run.addTo(runs);
                run = new Run(file, run.words);
            } else if (!line.isEmpty()) {
                run.rows.add(new Row(where, line));
            }
        }
        run.addTo(runs);
    }

    private void addTo(List<Run> runs) {
        if (rows.isEmpty()) {
            if (!words.isEmpty()) {
                throw new IllegalArgumentException(file + ": nothing is called for: " + words);
            }
            return;
        }
        if (rows.size() > MOST_CALLS) {
            throw new IllegalArgumentException(rows.get(0).where + ": a run of more calls than promised");
        }
        runs.add(this);
    }

    static PledgeHouse replay(List<Row> rows) {
        PledgeHouse house = new PledgeHouse();
        for (Row row : rows) {
            row.call.answerOf(house);
        }
        return house;
    }
}
