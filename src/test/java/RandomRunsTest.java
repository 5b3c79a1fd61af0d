import java.util.ArrayList;
import java.util.List;
import java.util.Random;

/**
 * Long runs of likely and unlikely calls, on the class and on the naive house: each answer is to be alike. A twin gets
 * neither what is refused nor, up to the last calls, what looks: all else is to be alike for it, too.
 */
public final class RandomRunsTest {
    private static final int RUNS = 3000;
    private static final int CALLS = 512;
    private static final int LOOKS_AT_END = 80;
    private static final String[] ACTS = {
        "day", "day", "day", "rule", "thing", "thing", "gold", "coat", "rare", "second", "second", "item", "item", "item",
        "box", "away", "lend", "lend", "lend", "lend", "tear", "oath", "pay", "pay", "renew", "renew", "undo", "redeem",
        "out", "forfeit", "forfeit", "bid", "bid", "sale", "sale", "fetch", "fetch", "claim", "drop", "prove", "image", "back",
    };
    private static final String[] LOOKS = {"place", "told", "told", "half", "sum", "as", "as", "as", "check", "status"};

    private final Random random;
    private final NaiveHouse naive = new NaiveHouse();
    private final PledgeHouse house = new PledgeHouse();
    private final PledgeHouse twin = new PledgeHouse();
    private final int places;
    private final int longestStep;

    private RandomRunsTest(long seed) {
        random = new Random(seed);
        places = 1 + random.nextInt(random.nextInt(4) == 0 ? 40 : 5);
        longestStep = random.nextInt(3) == 0 ? 400 : 1 + random.nextInt(60);
    }

    public static void main(String[] arguments) {
        int wrong = 0;
        for (long seed = 1; seed <= RUNS && wrong < 5; seed++) {
            wrong += new RandomRunsTest(seed).run(seed) ? 0 : 1;
        }
        System.out.println(wrong == 0 ? RUNS + " random runs are alike" : wrong + " random runs are not alike");
        if (wrong != 0) {
            System.exit(1);
        }
    }

    private boolean run(long seed) {
        List<String> told = new ArrayList<>();
        for (int i = 0; i < CALLS; i++) {
            boolean isAtEnd = i >= CALLS - LOOKS_AT_END;
            Call call = isAtEnd || random.nextInt(3) == 0 ? look() : act();
            String due = call.answerOf(naive);
            told.add(call + " = " + due);
            boolean isForTwin = call.isLooking() ? isAtEnd && !call.name.equals("status") : !due.startsWith("-");
            if (!isDue(seed, "", call, house, due, told) || isForTwin && !isDue(seed, ", the twin", call, twin, due, told)) {
                return false;
            }
        }
        return true;
    }

    private static boolean isDue(long seed, String which, Call call, PledgeHouse asked, String due, List<String> told) {
        String got = call.answerOf(asked);
        if (!got.equals(due)) {
            System.out.println("run " + seed + which + ": " + call + " answered " + got + ", due is " + due + ", behind:");
            told.forEach(row -> System.out.println("    " + row));
            return false;
        }
        return true;
    }

    private boolean rarely() {
        return random.nextInt(20) == 0;
    }

    private int wild() {
        int[] edges = {Integer.MIN_VALUE, -2, -1, 0, 1, 5, 6, 13, 14, 39, 40, 400, 401, 511, 512, 1000, 7300, 7301, 1000000, 1000001,
            10000000, 10000001, Integer.MAX_VALUE};
        return rarely() ? random.nextInt() : edges[random.nextInt(edges.length)];
    }

    private int pick(int low, int high) {
        return rarely() ? wild() : low + random.nextInt(high - low + 1);
    }

    private int place() {
        return pick(0, places - 1);
    }

    private int ticket() {
        int count = naive.s.tickets.size();
        return count == 0 ? wild() : pick(Math.max(1, count - 6), count);
    }

    private int value() {
        return random.nextBoolean() ? pick(1, 1000) : pick(1, 1000000);
    }

    private float weight() {
        float[] edges = {0f, -0f, 10000f, 10000.001f, Float.NaN, Float.POSITIVE_INFINITY, -1f, Float.MIN_VALUE, 0.00999f};
        return rarely() ? edges[random.nextInt(edges.length)] : random.nextFloat() * (random.nextBoolean() ? 10000f : 10f);
    }

    private int half(int number) {
        NaiveHouse.Ticket ticket = naive.ticket(number);
        if (ticket == null || rarely()) {
            return wild();
        }
        int[] shown = {ticket.secret, ticket.secret, ticket.secret, 0, ticket.number * 1000 + random.nextInt(1002) - 1};
        return shown[random.nextInt(shown.length)];
    }

    private int coins(int number, boolean all) {
        NaiveHouse.Ticket ticket = naive.ticket(number);
        if (ticket == null || rarely()) {
            return wild();
        }
        int owed = (int) ticket.owed();
        return all || rarely() ? owed + (rarely() ? 1 - random.nextInt(3) : 0) : random.nextInt(Math.max(1, Math.min(owed, 20000))) + 1;
    }

    private int amount(int place) {
        if (place < 0 || place >= 40 || naive.s.things[place] == null || rarely()) {
            return wild();
        }
        NaiveHouse.Thing thing = naive.s.things[place];
        int most = (int) (naive.worth(thing) * naive.s.rules[9 + thing.kind] / 1000);
        return random.nextInt(3) == 0 ? most + random.nextInt(3) - 1 : 1 + random.nextInt(Math.max(1, most));
    }

    private Call act() {
        String name = ACTS[random.nextInt(ACTS.length)];
        int place = place();
        int ticket = ticket();
        switch (name) {
            case "day": return new Call(name, pick(1, longestStep));
            case "rule": return rule();
            case "thing": return new Call(name, place, value());
            case "gold": return new Call(name, place, weight(), pick(1, 1000));
            case "coat": return new Call(name, place, value(), pick(0, 500));
            case "rare": return new Call(name, place, weight());
            case "second": case "item": return new Call(name, place, value());
            case "box": case "away": return random.nextInt(4) == 0 ? new Call(name, place) : new Call("lend", place, amount(place), pick(1, 12));
            case "lend": return new Call(name, place, amount(place), random.nextBoolean() ? 1 : pick(1, 12));
            case "tear": return new Call(name, ticket, pick(0, 1));
            case "pay": return new Call(name, ticket, half(ticket), coins(ticket, false));
            case "renew": return new Call(name, ticket, half(ticket), pick(1, 12));
            case "redeem": return new Call(name, ticket, half(ticket), coins(ticket, true));
            case "out": return new Call(name, ticket, half(ticket), pick(0, 5));
            case "bid": return new Call(name, ticket, random.nextBoolean() ? coins(ticket, true) : pick(1, 10000000));
            case "fetch": return new Call(name, ticket, half(ticket));
            case "image": return new Call(random.nextInt(4) == 0 ? name : "half");
            case "back": return new Call(random.nextInt(6) == 0 ? name : "status");
            default: return new Call(name, ticket);
        }
    }

    private Call rule() {
        int rule = pick(0, 13);
        switch (rule) {
            case 0: return new Call("rule", rule, pick(0, 30));
            case 2: return new Call("rule", rule, pick(1, 100));
            case 3: return new Call("rule", rule, pick(1, 10000));
            default: return new Call("rule", rule, pick(1, rule >= 9 ? 1000 : 200));
        }
    }

    private Call look() {
        String name = LOOKS[random.nextInt(LOOKS.length)];
        switch (name) {
            case "place": return new Call(name, place(), pick(0, 6));
            case "told": return new Call(name, ticket(), pick(0, 17));
            case "sum": return new Call(name, pick(0, 12));
            case "as": return new Call(name, pick(Math.max(0, naive.s.day - (rarely() ? 7300 : 90)), naive.s.day), pick(0, 12));
            default: return new Call(name);
        }
    }
}
