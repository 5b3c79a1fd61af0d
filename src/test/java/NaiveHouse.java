import java.io.ByteArrayInputStream;
import java.io.ByteArrayOutputStream;
import java.io.IOException;
import java.io.ObjectInputStream;
import java.io.ObjectOutputStream;
import java.io.Serializable;
import java.util.ArrayList;
import java.util.List;

/**
 * A second house, for comparing: it goes from day to day, writes all sums at the end of each one, and adds
 * up single movements of coins. It is written from the document alone and shares no code with the class.
 */
final class NaiveHouse {
    static final class Thing implements Serializable {
        int kind;
        long value, wear, came, fineness, hundredths, left;
        List<Integer> told = new ArrayList<>();
        List<Integer> items = new ArrayList<>(); // null: taken out
    }

    static final class Ticket implements Serializable {
        int number, place, stands, kind, secret, oath = -1, torn = -1;
        long principal, interest;
        int months, start, term, rate, claimed, claim = -1;
        boolean forfeit, fetched, lapsed;
        List<Integer> bids = new ArrayList<>();
        long over;
        int keptTo;
        long[] before; // of the renewing: start, term, rate, months, interest, claimed, day

        long owed() {
            return principal + interest;
        }
    }

    static final class State implements Serializable {
        int day;
        int[] rules = {20, 50, 700, 400, 20, 20, 20, 20, 20, 600, 600, 600, 600, 600};
        Thing[] things = new Thing[40];
        boolean[] box = new boolean[40];
        List<Ticket> tickets = new ArrayList<>();
        long lent, gotInterest, gotPrincipal, costs, fetched, loss;
        List<long[]> ends = new ArrayList<>();
    }

    private static final int[][] BOUNDS = {{0, 200}, {0, 500}, {1, 2000}, {1, 10000}, {0, 200}, {0, 200}, {0, 200}, {0, 200},
        {0, 200}, {1, 1000}, {1, 1000}, {1, 1000}, {1, 1000}, {1, 1000}};

    State s = new State();
    private byte[] kept;
    private int status;

    private int say(long answer) {
        status = (int) answer;
        return status;
    }

    Ticket ticket(int n) {
        return n < 1 || n > s.tickets.size() ? null : s.tickets.get(n - 1);
    }

    Ticket on(int place) {
        for (Ticket t : s.tickets) {
            if (t.stands == 0 && t.place == place) {
                return t;
            }
        }
        return null;
    }

    private static long up(long coins, long thousandths) {
        long all = coins * thousandths;
        return all / 1000 + (all % 1000 > 0 ? 1 : 0);
    }

    long worth(Thing g) {
        switch (g.kind) {
            case 0: return g.value;
            case 1: return g.hundredths * g.fineness * s.rules[3] / 1000000;
            case 2: return g.items.stream().filter(i -> i != null).mapToLong(i -> i).sum();
            case 3:
                long per = 1000;
                for (long d = g.came + 360; d <= s.day; d += 360) {
                    per -= g.wear;
                }
                return Math.max(0, per) * g.value / 1000;
            default:
                int n = g.told.size();
                return n < 2 ? 0 : Math.min(g.told.get(n - 1), g.told.get(n - 2));
        }
    }

    int day(int n) {
        if (n > 7300 - s.day) return say(-5);
        if (n < 1 || n > 400) return say(-6);
        for (int i = 0; i < n; i++) {
            s.ends.add(sums());
            s.day++;
            for (Ticket t : s.tickets) {
                if (t.stands == 0 && s.day == t.start + 30 * t.months) {
                    t.months++;
                    t.interest += up(t.principal, t.rate);
                }
                if (t.over > 0 && !t.fetched && s.day == t.keptTo + 1) t.lapsed = true;
            }
        }
        return say(s.day);
    }

    int rule(int r, int v) {
        if (r < 0 || r > 13) return say(-1);
        if (v < BOUNDS[r][0] || v > BOUNDS[r][1]) return say(-6);
        s.rules[r] = v;
        return say(0);
    }

    private int come(int place, int kind, long value, float weight, int fineness, int wear) {
        if (place < 0 || place > 39) return say(-1);
        if (s.box[place] || s.things[place] != null) return say(-2);
        if (value < 1 || value > 1000000) return say(-6);
        if (Float.isNaN(weight) || weight < 0 || weight > 10000) return say(-6);
        if (fineness < 1 || fineness > 1000) return say(-6);
        if (wear < 0 || wear > 500) return say(-6);
        Thing g = new Thing();
        g.kind = kind;
        g.value = value;
        g.fineness = fineness;
        g.wear = wear;
        g.came = s.day;
        float h = weight * 100.0f;
        g.hundredths = (long) Math.floor(h);
        g.left = (long) Math.floor((h - (float) g.hundredths) * 1000.0f);
        if (kind == 2) g.items.add((int) value);
        s.things[place] = g;
        return say(kind == 1 || kind == 4 ? g.hundredths : 0);
    }

    int thing(int place, int value) {
        return come(place, 0, value, 0, 1, 0);
    }

    int gold(int place, float weight, int fineness) {
        return come(place, 1, 1, weight, fineness, 0);
    }

    int coat(int place, int value, int wear) {
        return come(place, 3, value, 0, 1, wear);
    }

    int rare(int place, float weight) {
        return come(place, 4, 1, weight, 1, 0);
    }

    int second(int place, int value) {
        if (place < 0 || place > 39) return say(-1);
        Thing g = s.things[place];
        if (g == null || g.kind != 4 || on(place) != null) return say(-2);
        if (value < 1 || value > 1000000) return say(-6);
        g.told.add(value);
        return say(g.told.size());
    }

    int item(int place, int value) {
        if (place < 0 || place > 39) return say(-1);
        Thing g = s.things[place];
        if (g == null) return come(place, 2, value, 0, 1, 0);
        if (g.kind != 2 || on(place) != null) return say(-2);
        if (value < 1 || value > 1000000 || g.items.size() == 6) return say(-6);
        g.items.add(value);
        return say(g.items.size() - 1);
    }

    int box(int place) {
        if (place < 0 || place > 39) return say(-1);
        if (s.things[place] != null) return say(-2);
        s.box[place] = !s.box[place];
        return say(s.box[place] ? 1 : 0);
    }

    int away(int place) {
        if (place < 0 || place > 39) return say(-1);
        if (s.things[place] == null || on(place) != null) return say(-2);
        s.things[place] = null;
        return say(0);
    }

    int lend(int place, int amount, int months) {
        if (place < 0 || place > 39) return say(-1);
        Thing g = s.things[place];
        if (g == null || on(place) != null) return say(-2);
        if (months < 1 || months > 12 || amount < 1 || amount > worth(g) * s.rules[9 + g.kind] / 1000) return say(-6);
        if (s.tickets.size() == 511) return say(-7);
        Ticket t = new Ticket();
        s.tickets.add(t);
        t.number = s.tickets.size();
        t.place = place;
        t.kind = g.kind;
        t.secret = t.number * 1000 + (int) ((7L * amount + 13L * s.day) % 1000);
        t.principal = amount;
        t.start = s.day;
        t.term = months;
        t.rate = s.rules[4 + g.kind];
        t.months = 1;
        t.interest = up(amount, t.rate);
        s.lent += amount;
        return say(t.number);
    }

    int tear(int n, int how) {
        Ticket t = ticket(n);
        if (t == null) return say(-1);
        if (t.torn >= 0) return say(-2);
        if (how != 0 && how != 1) return say(-6);
        t.torn = how;
        return say(0);
    }

    int oath(int n) {
        Ticket t = ticket(n);
        if (t == null) return say(-1);
        if (t.stands != 0) return say(-2);
        t.oath = s.day;
        return say(0);
    }

    private boolean right(Ticket t, int half) {
        if (half == 0) return t.oath >= 0 && s.day >= t.oath + 14;
        if (t.torn >= 0) return half > 0 && half / 1000 == t.number;
        return half == t.secret;
    }

    private static void show(Ticket t, int half) {
        if (half != 0) t.oath = -1;
    }

    int pay(int n, int half, int coins) {
        Ticket t = ticket(n);
        if (t == null) return say(-1);
        if (t.stands != 0 || t.forfeit) return say(-2);
        if (!right(t, half)) return say(-4);
        if (coins < 1 || coins > t.owed() - 1) return say(-6);
        for (int i = 0; i < coins; i++) {
            if (t.interest > 0) {
                t.interest--;
                s.gotInterest++;
            } else {
                t.principal--;
                s.gotPrincipal++;
            }
        }
        t.before = null;
        show(t, half);
        return say(t.owed());
    }

    int renew(int n, int half, int months) {
        Ticket t = ticket(n);
        if (t == null) return say(-1);
        if (t.stands != 0 || t.forfeit) return say(-2);
        if (t.claim >= 0) return say(-3);
        if (!right(t, half)) return say(-4);
        if (months < 1 || months > 12) return say(-6);
        t.before = new long[] {t.start, t.term, t.rate, t.months, t.interest, t.claimed, s.day};
        long paid = t.interest;
        while (t.start <= s.day) t.start += 30;
        // the next month that did not begin: by 30s from the old START on
        t.interest = 0;
        t.months = 0;
        t.term = months;
        t.rate = s.rules[4 + t.kind];
        t.claimed = 0;
        s.gotInterest += paid;
        show(t, half);
        return say(paid);
    }

    int undo(int n) {
        Ticket t = ticket(n);
        if (t == null) return say(-1);
        if (t.stands != 0 || t.before == null) return say(-2);
        if (t.before[6] != s.day) return say(-5);
        t.start = (int) t.before[0];
        t.term = (int) t.before[1];
        t.rate = (int) t.before[2];
        t.months = (int) t.before[3];
        t.interest = t.before[4];
        t.claimed = (int) t.before[5];
        t.before = null;
        s.gotInterest -= t.interest;
        return say(t.interest);
    }

    private void close(Ticket t, int stands) {
        t.stands = stands;
        s.things[t.place] = null;
    }

    int redeem(int n, int half, int coins) {
        Ticket t = ticket(n);
        if (t == null) return say(-1);
        if (t.stands != 0 || t.forfeit) return say(-2);
        if (t.claim >= 0) return say(-3);
        if (!right(t, half)) return say(-4);
        if (coins != t.owed()) return say(-6);
        s.gotInterest += t.interest;
        s.gotPrincipal += t.principal;
        show(t, half);
        close(t, 1);
        return say(0);
    }

    int out(int n, int half, int item) {
        Ticket t = ticket(n);
        if (t == null || item < 0 || item > 5) return say(-1);
        if (t.stands != 0 || t.forfeit) return say(-2);
        Thing g = s.things[t.place];
        if (g.kind != 2 || item >= g.items.size() || g.items.get(item) == null) return say(-2);
        if (t.claim >= 0) return say(-3);
        if (!right(t, half)) return say(-4);
        long rest = worth(g) - g.items.get(item);
        if (rest == 0 || t.owed() > rest * s.rules[11] / 1000) return say(-6);
        g.items.set(item, null);
        t.before = null;
        show(t, half);
        return say(rest);
    }

    private int running(Ticket t) {
        int days = 0;
        for (int d = t.claim; t.claim >= 0 && d < s.day; d++) {
            if (d >= t.start + 30 * t.term) days++;
        }
        return days;
    }

    private int first(Ticket t) {
        return t.start + 30 * t.term + s.rules[0] + t.claimed + running(t);
    }

    int forfeit(int n) {
        Ticket t = ticket(n);
        if (t == null) return say(-1);
        if (t.stands != 0 || t.forfeit) return say(-2);
        if (t.claim >= 0) return say(-3);
        if (s.day < first(t)) return say(-5);
        t.forfeit = true;
        return say(t.owed());
    }

    int bid(int n, int coins) {
        Ticket t = ticket(n);
        if (t == null) return say(-1);
        if (t.stands != 0 || !t.forfeit) return say(-2);
        if (coins < 1 || coins > 10000000) return say(-6);
        t.bids.add(coins);
        return say(t.bids.size());
    }

    private static long highest(Ticket t) {
        return t.bids.stream().mapToLong(b -> b).max().orElse(0);
    }

    int sale(int n) {
        Ticket t = ticket(n);
        if (t == null) return say(-1);
        if (t.stands != 0 || !t.forfeit || t.bids.isEmpty()) return say(-2);
        if (t.claim >= 0) return say(-3);
        long costs = up(highest(t), s.rules[1]);
        long left = highest(t) - costs;
        s.costs += costs;
        if (left > t.owed()) {
            t.over = left - t.owed();
            t.keptTo = s.day + s.rules[2];
            s.gotInterest += t.interest;
            s.gotPrincipal += t.principal;
        } else if (left >= t.interest) {
            s.gotInterest += t.interest;
            s.gotPrincipal += left - t.interest;
            s.loss += t.owed() - left;
        } else {
            s.gotInterest += left;
            s.loss += t.owed() - left;
        }
        close(t, 2);
        return say(highest(t));
    }

    int fetch(int n, int half) {
        Ticket t = ticket(n);
        if (t == null) return say(-1);
        if (t.over == 0 || t.fetched) return say(-2);
        if (!right(t, half)) return say(-4);
        if (t.lapsed) return say(-5);
        t.fetched = true;
        s.fetched += t.over;
        show(t, half);
        return say(t.over);
    }

    int claim(int n) {
        Ticket t = ticket(n);
        if (t == null) return say(-1);
        if (t.stands != 0) return say(-2);
        if (t.claim >= 0) return say(-3);
        t.claim = s.day;
        t.before = null;
        return say(0);
    }

    int drop(int n) {
        Ticket t = ticket(n);
        if (t == null) return say(-1);
        if (t.stands != 0) return say(-2);
        if (t.claim < 0) return say(-3);
        t.claimed += running(t);
        t.claim = -1;
        return say(t.claimed);
    }

    int prove(int n) {
        Ticket t = ticket(n);
        if (t == null) return say(-1);
        if (t.stands != 0) return say(-2);
        if (t.claim < 0) return say(-3);
        t.claimed += running(t);
        t.claim = -1;
        s.loss += t.owed();
        close(t, 3);
        return say(t.owed());
    }

    int image() {
        try (ByteArrayOutputStream bytes = new ByteArrayOutputStream(); ObjectOutputStream out = new ObjectOutputStream(bytes)) {
            out.writeObject(s);
            out.flush();
            kept = bytes.toByteArray();
        } catch (IOException e) {
            throw new IllegalStateException(e);
        }
        return say(0);
    }

    int back() {
        if (kept == null) return say(-2);
        try (ObjectInputStream in = new ObjectInputStream(new ByteArrayInputStream(kept))) {
            s = (State) in.readObject();
        } catch (IOException | ClassNotFoundException e) {
            throw new IllegalStateException(e);
        }
        return say(0);
    }

    long place(int place, int what) {
        if (place < 0 || place > 39 || what < 0 || what > 6) return -1;
        Thing g = s.things[place];
        if (what == 0) return g != null ? g.kind : s.box[place] ? 5 : -1;
        if (g == null) return 0;
        boolean weighed = g.kind == 1 || g.kind == 4;
        if (what == 1) return worth(g);
        if (what == 2) return on(place) == null ? 0 : on(place).number;
        if (what == 3) return weighed ? g.hundredths : 0;
        if (what == 4) return weighed ? g.left : 0;
        if (what == 5) return g.kind == 2 ? g.items.stream().filter(i -> i != null).count() : 0;
        return g.told.size();
    }

    int told(int n, int what) {
        Ticket t = ticket(n);
        if (t == null || what < 0 || what > 17) return -1;
        long[] all = {t.stands, t.principal, t.interest, t.months, t.start, t.term, t.rate, t.forfeit ? 1 : 0, first(t),
            t.claim >= 0 ? 1 : 0, t.claimed, highest(t), t.over, t.fetched ? 1 : t.lapsed ? 2 : 0, t.place,
            t.torn == 0 ? -1 : t.number, t.torn >= 0 ? -1 : t.secret, t.oath};
        return (int) all[what];
    }

    int half() {
        return s.tickets.isEmpty() ? 0 : s.tickets.get(s.tickets.size() - 1).secret;
    }

    private long[] sums() {
        long[] all = {s.lent, s.gotInterest, s.gotPrincipal, s.costs, 0, s.fetched, 0, s.loss, 0, 0, 0, 0, s.tickets.size()};
        for (Ticket t : s.tickets) {
            if (t.over > 0 && !t.fetched) all[t.lapsed ? 6 : 4] += t.over;
            if (t.stands == 0) {
                all[8] += t.principal;
                all[9] += t.interest;
                all[10]++;
            }
        }
        for (Thing g : s.things) {
            if (g != null) all[11]++;
        }
        return all;
    }

    long sum(int what) {
        return as(s.day, what);
    }

    long as(int day, int what) {
        if (what < 0 || what > 12 || day < 0 || day > s.day) return -1;
        return day == s.day ? sums()[what] : s.ends.get(day)[what];
    }

    int check() {
        return 0;
    }

    int status() {
        return status;
    }
}
