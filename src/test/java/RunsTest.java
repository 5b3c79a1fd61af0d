import java.io.IOException;
import java.nio.file.Path;
import java.util.ArrayList;
import java.util.List;

/**
 * The runs under src/test/runs and src/test/sentences. Each is called as it is written, and then again: with status()
 * behind each call, without the calls that are refused, without those that look, and with all looks ahead of and
 * behind each refused call.
 */
public final class RunsTest {
    private static final int PROMISES = 35;

    private static int wrong;
    private static int calls;
    private static int refused;

    public static void main(String[] arguments) throws IOException {
        List<Run> runs = Run.readAll(Path.of(arguments[0], "runs"));
        for (int promise = 1; promise <= PROMISES; promise++) {
            lookForPromise(runs, String.format("%02d-", promise));
        }
        runs.addAll(Run.readAll(Path.of(arguments[0], "sentences")));
        for (Run run : runs) {
            if (areAnswersDue(run)) {
                statusIsThatOfTheLatestAct(run);
                othersAnswerAlikeWithoutRefused(run);
                actsAnswerAlikeWithoutLooks(run);
                refusedChangeNothing(run);
            }
        }
        System.out.println(calls + " calls of " + runs.size() + " runs, " + refused + " of them refused, " + wrong + " wrong");
        if (wrong != 0) {
            System.exit(1);
        }
    }

    private static void lookForPromise(List<Run> runs, String start) {
        if (runs.stream().noneMatch(run -> run.file.startsWith(start))) {
            tell("no runs for promise " + start);
        }
    }

    private static void tell(String fault) {
        wrong++;
        System.out.println(fault);
    }

    private static boolean isDue(PledgeHouse house, Run.Row row, String how) {
        String got = row.call.answerOf(house);
        if (got.equals(row.due)) {
            return true;
        }
        tell(row.where + how + ": " + row.call + " answered " + got + ", due is " + row.due);
        return false;
    }

    private static boolean areAnswersDue(Run run) {
        PledgeHouse house = new PledgeHouse();
        boolean areDue = true;
        for (Run.Row row : run.rows) {
            calls++;
            areDue &= isDue(house, row, "");
        }
        return areDue;
    }

    private static void statusIsThatOfTheLatestAct(Run run) {
        PledgeHouse house = new PledgeHouse();
        String due = "0";
        for (int i = 0; i < run.rows.size() && i < Run.MOST_CALLS / 2; i++) {
            Run.Row row = run.rows.get(i);
            row.call.answerOf(house);
            due = row.call.isLooking() ? due : row.due;
            String got = String.valueOf(house.status());
            if (!got.equals(due)) {
                tell(row.where + ": status() behind it answered " + got + ", due is " + due);
            }
        }
    }

    private static void othersAnswerAlikeWithoutRefused(Run run) {
        PledgeHouse house = new PledgeHouse();
        for (Run.Row row : run.rows) {
            if (!row.isRefused() && !row.call.name.equals("status")) {
                isDue(house, row, ", the refused calls left out");
            }
        }
    }

    private static void actsAnswerAlikeWithoutLooks(Run run) {
        PledgeHouse house = new PledgeHouse();
        for (Run.Row row : run.rows) {
            if (!row.call.isLooking()) {
                isDue(house, row, ", the looks left out");
            }
        }
    }

    private static void refusedChangeNothing(Run run) {
        Looks looks = new Looks(run);
        List<String> before = null;
        for (int i = 0; i < run.rows.size(); i++) {
            Run.Row row = run.rows.get(i);
            if (row.isRefused()) {
                refused++;
                before = before == null ? looks.behind(run.rows.subList(0, i)) : before;
                List<String> behind = looks.behind(run.rows.subList(0, i + 1));
                tellChanges(row, before, behind);
            } else if (!row.call.isLooking()) {
                before = null;
            }
        }
    }

    private static void tellChanges(Run.Row row, List<String> before, List<String> behind) {
        if (!before.equals(behind)) {
            List<String> changed = new ArrayList<>(behind);
            changed.removeAll(before);
            tell(row.where + ": " + row.call + " was refused, but behind it " + changed);
        }
    }
}
