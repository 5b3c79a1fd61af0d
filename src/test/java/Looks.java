import java.util.ArrayList;
import java.util.List;
import java.util.TreeSet;

/** All that looking can show of the object that a run is about. */
final class Looks {
    private static final int PLACES = 40;
    private static final int OF_A_PLACE = 7;
    private static final int OF_A_TICKET = 18;
    private static final int SUMS = 13;

    private final List<Call> looks = new ArrayList<>();

    Looks(Run run) {
        int tickets = 0;
        TreeSet<Integer> days = new TreeSet<>(List.of(0, 1));
        for (Run.Row row : run.rows) {
            if (row.call.name.equals("lend")) {
                tickets++;
            }
            if (row.call.name.equals("day") && !row.isRefused()) {
                int day = Integer.parseInt(row.due);
                days.addAll(List.of(day - 1, day, day + 1));
            }
        }
        lookAtPlaces();
        lookAtTickets(tickets);
        lookAtBooks(days);
        looks.add(new Call("half"));
        looks.add(new Call("check"));
    }

    private void lookAtPlaces() {
        for (int place = 0; place < PLACES; place++) {
            for (int what = 0; what < OF_A_PLACE; what++) {
                looks.add(new Call("place", place, what));
            }
        }
    }

    private void lookAtTickets(int tickets) {
        for (int ticket = 1; ticket <= tickets; ticket++) {
            for (int what = 0; what < OF_A_TICKET; what++) {
                looks.add(new Call("told", ticket, what));
            }
        }
    }

    private void lookAtBooks(TreeSet<Integer> days) {
        for (int what = 0; what < SUMS; what++) {
            looks.add(new Call("sum", what));
            for (int day : days) {
                looks.add(new Call("as", day, what));
            }
        }
    }

    /** Asked of as many new objects as are needed for no one to get more calls than are promised. */
    List<String> behind(List<Run.Row> rows) {
        List<String> shown = new ArrayList<>();
        PledgeHouse house = null;
        int callsLeft = 0;
        for (Call look : looks) {
            if (callsLeft <= 0) {
                house = Run.replay(rows);
                callsLeft = Math.max(1, Run.MOST_CALLS - rows.size());
            }
            shown.add(look + " = " + look.answerOf(house));
            callsLeft--;
        }
        return shown;
    }
}
