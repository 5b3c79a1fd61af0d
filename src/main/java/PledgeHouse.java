/**
 * A house that lends on pledges and can show for each coin and each thing why it is where it is.
 * The face only hands each act to the state and keeps its answer; an image is a second state.
 */
public final class PledgeHouse {
    public static final int NONE = -1;

    private static final int NO_SUCH = -1;
    private static final int NOT_SO = -2;
    private static final int CLAIM_FORBIDS = -3;
    private static final int WRONG_HALF = -4;
    private static final int WRONG_DAY = -5;
    private static final int OUT_OF_BOUNDS = -6;
    private static final int NO_ROOM = -7;

    private static final int LAST_DAY = 7300;
    private static final int MOST_DAYS = 400;
    private static final int PLACES = 40;
    private static final int MOST_TICKETS = 511;
    private static final int MOST_VALUE = 1_000_000;
    private static final int MOST_BID = 10_000_000;
    private static final int MOST_WEAR = 500;
    private static final int MOST_FINENESS = 1000;
    private static final int MOST_MONTHS = 12;
    private static final int ITEMS = 6;

    private static final int THING = 0;
    private static final int GOLD = 1;
    private static final int LOT = 2;
    private static final int COAT = 3;
    private static final int RARE = 4;
    private static final int BOX = 5;

    private static final int GRACE = 0;
    private static final int SALE_COSTS = 1;
    private static final int DAYS_KEPT = 2;
    private static final int PRICE = 3;
    private static final int RATE = 4;
    private static final int PART = 9;
    private static final int[] RULES_AT_FIRST = {20, 50, 700, 400, 20, 20, 20, 20, 20, 600, 600, 600, 600, 600};
    private static final int[] RULES_LOWEST = {0, 0, 1, 1, 0, 0, 0, 0, 0, 1, 1, 1, 1, 1};
    private static final int[] RULES_HIGHEST =
        {200, 500, 2000, 10_000, 200, 200, 200, 200, 200, 1000, 1000, 1000, 1000, 1000};

    private final House now;
    private final House kept;
    private boolean anythingKept;
    private int latestAnswer;

    public PledgeHouse() {
        Books books = new Books();
        now = new House(books);
        kept = new House(books);
    }

    public int day(int n) {
        return answer(now.passDays(n));
    }

    public int rule(int rule, int v) {
        return answer(now.setRule(rule, v));
    }

    public int thing(int place, int value) {
        return answer(now.bringThing(place, value));
    }

    public int gold(int place, float weight, int fineness) {
        return answer(now.bringGold(place, weight, fineness));
    }

    public int coat(int place, int value, int wear) {
        return answer(now.bringCoat(place, value, wear));
    }

    public int rare(int place, float weight) {
        return answer(now.bringRare(place, weight));
    }

    public int second(int place, int value) {
        return answer(now.tellValue(place, value));
    }

    public int item(int place, int value) {
        return answer(now.bringItem(place, value));
    }

    public int box(int place) {
        return answer(now.moveBox(place));
    }

    public int away(int place) {
        return answer(now.takeAway(place));
    }

    public int lend(int place, int amount, int months) {
        return answer(now.lendOn(place, amount, months));
    }

    public int tear(int ticket, int how) {
        return answer(now.tearHalf(now.findTicket(ticket), how));
    }

    public int oath(int ticket) {
        return answer(now.hearOath(now.findTicket(ticket)));
    }

    public int pay(int ticket, int half, int coins) {
        return answer(now.payPart(now.findTicket(ticket), half, coins));
    }

    public int renew(int ticket, int half, int months) {
        return answer(now.renewTerm(now.findTicket(ticket), half, months));
    }

    public int undo(int ticket) {
        return answer(now.undoRenewing(now.findTicket(ticket)));
    }

    public int redeem(int ticket, int half, int coins) {
        return answer(now.giveBack(now.findTicket(ticket), half, coins));
    }

    public int out(int ticket, int half, int item) {
        return answer(now.takeItemOut(now.findTicket(ticket), half, item));
    }

    public int forfeit(int ticket) {
        return answer(now.makeForfeit(now.findTicket(ticket)));
    }

    public int bid(int ticket, int coins) {
        return answer(now.hearBid(now.findTicket(ticket), coins));
    }

    public int sale(int ticket) {
        return answer(now.sellPledge(now.findTicket(ticket)));
    }

    public int fetch(int ticket, int half) {
        return answer(now.handOver(now.findTicket(ticket), half));
    }

    public int claim(int ticket) {
        return answer(now.raiseClaim(now.findTicket(ticket)));
    }

    public int drop(int ticket) {
        return answer(now.dropClaim(now.findTicket(ticket)));
    }

    public int prove(int ticket) {
        return answer(now.proveClaim(now.findTicket(ticket)));
    }

    public int image() {
        kept.become(now);
        anythingKept = true;
        return answer(0);
    }

    public int back() {
        if (!anythingKept) {
            return answer(NOT_SO);
        }
        now.become(kept);
        return answer(0);
    }

    public long place(int place, int what) {
        return now.lookAtPlace(place, what);
    }

    public int told(int ticket, int what) {
        return now.lookAtTicket(now.findTicket(ticket), what);
    }

    public int half() {
        return now.latestHalf();
    }

    public long sum(int what) {
        return now.sumOn(now.today, what);
    }

    public long as(int day, int what) {
        return now.sumOn(day, what);
    }

    public int check() {
        return now.countFaults();
    }

    public int status() {
        return latestAnswer;
    }

    private int answer(int answer) {
        latestAnswer = answer;
        return answer;
    }

    /** What stands on a place, in itself unchanging, so that an image may share it. */
    private abstract static class Pledge {
        abstract int kind();

        abstract int worth(int today, int price);

        int hundredths() {
            return 0;
        }

        int leftOver() {
            return 0;
        }

        int itemCount() {
            return 0;
        }

        int tellers() {
            return 0;
        }
    }

    private static final class Thing extends Pledge {
        private final int value;

        Thing(int value) {
            this.value = value;
        }

        int kind() {
            return THING;
        }

        int worth(int today, int price) {
            return value;
        }
    }

    private static final class Coat extends Pledge {
        private static final int WEARING_DAYS = 360;

        private final int value;
        private final int wear;
        private final int came;

        Coat(int value, int wear, int came) {
            this.value = value;
            this.wear = wear;
            this.came = came;
        }

        int kind() {
            return COAT;
        }

        int worth(int today, int price) {
            long left = 1000L - (long) wear * ((today - came) / WEARING_DAYS);
            return left <= 0 ? 0 : (int) (value * left / 1000);
        }
    }

    /** What gold and rare things have alike: a weight, of which whole hundredths count. */
    private abstract static class Weighed extends Pledge {
        private final int hundredths;
        private final int leftOver;

        Weighed(float weight) {
            float all = weight * 100f;
            hundredths = (int) all;
            leftOver = (int) ((all - (float) hundredths) * 1000f);
        }

        /** Written so that what is no number fails it too. */
        static boolean isWeight(float weight) {
            return weight >= 0f && weight <= 10_000f;
        }

        int hundredths() {
            return hundredths;
        }

        int leftOver() {
            return leftOver;
        }
    }

    private static final class Gold extends Weighed {
        private final int fineness;

        Gold(float weight, int fineness) {
            super(weight);
            this.fineness = fineness;
        }

        int kind() {
            return GOLD;
        }

        int worth(int today, int price) {
            return (int) ((long) hundredths() * fineness * price / 1_000_000);
        }
    }

    private static final class Rare extends Weighed {
        private final float weight;
        private final int tellers;
        private final int latest;
        private final int earlier;

        Rare(float weight, int tellers, int latest, int earlier) {
            super(weight);
            this.weight = weight;
            this.tellers = tellers;
            this.latest = latest;
            this.earlier = earlier;
        }

        Rare withValue(int value) {
            return new Rare(weight, tellers + 1, value, latest);
        }

        int kind() {
            return RARE;
        }

        int worth(int today, int price) {
            return tellers < 2 ? 0 : Math.min(latest, earlier);
        }

        int tellers() {
            return tellers;
        }
    }

    private static final class Lot extends Pledge {
        /** By the items' numbers; 0 is of one that did not come or was taken out. */
        private final int[] values;
        private final int came;

        private Lot(int[] values, int came) {
            this.values = values;
            this.came = came;
        }

        static Lot empty() {
            return new Lot(new int[ITEMS], 0);
        }

        boolean isFull() {
            return came >= ITEMS;
        }

        boolean holds(int item) {
            return item >= 0 && item < values.length && values[item] != 0;
        }

        /** For a lot that is not full. */
        Lot withItem(int value) {
            int[] more = values.clone();
            if (came < more.length) {
                more[came] = value;
            }
            return new Lot(more, came + 1);
        }

        Lot withoutItem(int item) {
            int[] less = values.clone();
            if (item >= 0 && item < less.length) {
                less[item] = 0;
            }
            return new Lot(less, came);
        }

        int numberOfLatest() {
            return came - 1;
        }

        int kind() {
            return LOT;
        }

        int worth(int today, int price) {
            int together = 0;
            for (int i = 0; i < values.length; i++) {
                together += values[i];
            }
            return together;
        }

        int itemCount() {
            int count = 0;
            for (int i = 0; i < values.length; i++) {
                if (values[i] != 0) {
                    count++;
                }
            }
            return count;
        }
    }

    /** All that a renewing makes anew and its undoing brings back. */
    private static final class Term {
        private static final int MONTH = 30;

        int start;
        int months;
        int rate;
        int begun;
        int interest;
        int claimedDays;

        static int begunUpTo(long start, long day) {
            return day < start ? 0 : (int) ((day - start) / MONTH) + 1;
        }

        void become(Term other) {
            start = other.start;
            months = other.months;
            rate = other.rate;
            begun = other.begun;
            interest = other.interest;
            claimedDays = other.claimedDays;
        }

        void beginAnew(int start, int months, int rate) {
            this.start = start;
            this.months = months;
            this.rate = rate;
            begun = 0;
            interest = 0;
            claimedDays = 0;
        }

        int lastDay() {
            return start + MONTH * months;
        }

        int nextBeginning() {
            return start + MONTH * begun;
        }

        int growth(int principal) {
            return cutUp(principal, rate);
        }

        void reachDay(int day, int principal) {
            int begunNow = begunUpTo(start, day);
            interest += (begunNow - begun) * growth(principal);
            begun = begunNow;
        }

        int daysOfClaim(int claimed, int dropped) {
            return Math.max(0, dropped - Math.max(claimed, lastDay()));
        }
    }

    private static int cutUp(int coins, int thousandths) {
        return (int) (((long) coins * thousandths + 999) / 1000);
    }

    private static final class Ticket {
        static final int OPEN = 0;
        static final int REDEEMED = 1;
        static final int SOLD = 2;
        static final int PROVED = 3;

        private static final int WHOLE = 0;
        private static final int NUMBER_LEFT = 1;
        private static final int NOTHING_LEFT = 2;
        private static final int OATH_DAYS = 14;

        int number;
        int place;
        int kind;
        int standing;
        int principal;
        boolean forfeited;
        final Term term = new Term();

        /** The term ahead of the renewing that may still be undone. */
        final Term earlier = new Term();
        int renewedOn = NONE;

        int holderHalf;
        int houseHalf;
        int oathDay = NONE;
        int claimDay = NONE;
        int bids;
        int highestBid;
        int over;
        int soldOn = NONE;
        int keptUpTo;
        int fetchedOn = NONE;

        void become(Ticket other) {
            number = other.number;
            place = other.place;
            kind = other.kind;
            standing = other.standing;
            principal = other.principal;
            forfeited = other.forfeited;
            term.become(other.term);
            earlier.become(other.earlier);
            renewedOn = other.renewedOn;
            holderHalf = other.holderHalf;
            houseHalf = other.houseHalf;
            oathDay = other.oathDay;
            claimDay = other.claimDay;
            bids = other.bids;
            highestBid = other.highestBid;
            over = other.over;
            soldOn = other.soldOn;
            keptUpTo = other.keptUpTo;
            fetchedOn = other.fetchedOn;
        }

        boolean isOpen() {
            return standing == OPEN;
        }

        /** Whether its holder may still pay, renew, redeem or take out, as far as forfeiting goes. */
        boolean isHolders() {
            return isOpen() && !forfeited;
        }

        boolean isForSale() {
            return isOpen() && forfeited;
        }

        boolean isClaimed() {
            return claimDay != NONE;
        }

        boolean isTorn() {
            return houseHalf != WHOLE;
        }

        void tearAll() {
            houseHalf = NOTHING_LEFT;
        }

        void tearAllButNumber() {
            houseHalf = NUMBER_LEFT;
        }

        int numberInHouseHalf() {
            return houseHalf == NOTHING_LEFT ? NONE : number;
        }

        int halfInHouseHalf() {
            return isTorn() ? NONE : holderHalf;
        }

        boolean isRight(int half, int today) {
            if (half == 0) {
                return oathDay != NONE && today - oathDay >= OATH_DAYS;
            }
            if (isTorn()) {
                return half >= 1000 * number && half <= 1000 * number + 999;
            }
            return half == holderHalf;
        }

        void endOathBy(int half) {
            if (half != 0) {
                oathDay = NONE;
            }
        }

        int owed() {
            return principal + term.interest;
        }

        int claimedDaysIfDropped(int today) {
            return isClaimed() ? term.claimedDays + term.daysOfClaim(claimDay, today) : term.claimedDays;
        }

        void endClaim(int today) {
            term.claimedDays = claimedDaysIfDropped(today);
            claimDay = NONE;
        }

        int forfeitDay(int today, int grace) {
            return term.lastDay() + grace + claimedDaysIfDropped(today);
        }

        boolean isKeptOver(int day) {
            return hasOverOn(day) && day <= keptUpTo;
        }

        boolean isHousesOver(int day) {
            return hasOverOn(day) && day > keptUpTo;
        }

        private boolean hasOverOn(int day) {
            return over > 0 && soldOn <= day && (fetchedOn == NONE || fetchedOn > day);
        }

        int overState(int today) {
            if (fetchedOn != NONE) {
                return 1;
            }
            return isHousesOver(today) ? 2 : 0;
        }
    }

    /**
     * A row for each act that moved coins or pledges, with the totals behind it. Rows are only
     * ever added, so an image shares them and remembers their number alone.
     */
    private static final class Books {
        static final int LENT = 0;
        static final int GOT_INTEREST = 1;
        static final int GOT_PRINCIPAL = 2;
        static final int COSTS = 3;
        static final int KEPT_OVERS = 4;
        static final int FETCHED = 5;
        static final int HOUSES_OVERS = 6;
        static final int LOSS = 7;
        static final int PRINCIPAL = 8;
        static final int INTEREST = 9;
        static final int OPEN_TICKETS = 10;
        static final int PLEDGES = 11;
        static final int TICKETS = 12;
        static final int SUMS = 13;

        static final int LOST_PRINCIPAL = 13;
        private static final int TOTALS = 14;

        /**
         * How the interest of the row's ticket grew up to the row (WAS) and grows from it on (IS):
         * where months begin, what each one adds, and what there is beside those.
         */
        static final int WAS = 14;
        static final int IS = 17;
        private static final int START = 0;
        private static final int GROWTH = 1;
        private static final int BESIDE = 2;

        private static final int ROW_DAY = 20;
        private static final int WIDTH = 21;

        /** One more than the calls of an object, each of which adds one row at most. */
        private static final int ROWS = 513;

        private final long[][] rows = new long[ROWS][WIDTH];

        /** The row behind so many others; when there is no more room the last one is used again. */
        long[] rowBehind(int count, int today) {
            int at = Math.max(0, Math.min(count, ROWS - 1));
            long[] row = rows[at];
            for (int i = 0; i < WIDTH; i++) {
                row[i] = at > 0 && i < TOTALS ? rows[at - 1][i] : 0;
            }
            row[ROW_DAY] = today;
            return row;
        }

        int countBehind(int count) {
            return Math.min(count + 1, ROWS);
        }

        /** How many of the first rows are of no later day. */
        int rowsUpTo(int day, int count) {
            int up = Math.min(count, ROWS);
            while (up > 0 && rows[up - 1][ROW_DAY] > day) {
                up--;
            }
            return up;
        }

        long total(int what, int upTo) {
            if (upTo < 1 || upTo > ROWS || what < 0 || what >= TOTALS) {
                return 0;
            }
            return rows[upTo - 1][what];
        }

        static void writeGrowing(long[] row, int at, Ticket ticket) {
            long growth = ticket.term.growth(ticket.principal);
            row[at + START] = ticket.term.start;
            row[at + GROWTH] = growth;
            row[at + BESIDE] = ticket.term.interest - growth * ticket.term.begun;
        }

        /** What a row's ticket grew to up to its change is taken off again by the next WAS. */
        long interestOn(int day, int upTo) {
            long together = 0;
            for (int i = 0; i < upTo && i < ROWS; i++) {
                together += grown(rows[i], IS, day) - grown(rows[i], WAS, day);
            }
            return together;
        }

        private static long grown(long[] row, int at, int day) {
            return row[at + BESIDE] + row[at + GROWTH] * Term.begunUpTo(row[at + START], day);
        }
    }

    /** All that an image keeps. */
    private static final class House {
        private final Books books;
        private int rowCount;
        private int today;
        private final int[] rules = RULES_AT_FIRST.clone();
        private final Pledge[] pledges = new Pledge[PLACES];
        private final boolean[] boxes = new boolean[PLACES];
        private final int[] ticketOn = new int[PLACES];
        private final Ticket[] tickets = new Ticket[MOST_TICKETS];
        private int ticketCount;

        House(Books books) {
            this.books = books;
        }

        void become(House other) {
            rowCount = other.rowCount;
            today = other.today;
            System.arraycopy(other.rules, 0, rules, 0, rules.length);
            for (int i = 0; i < PLACES; i++) {
                pledges[i] = other.pledges[i];
                boxes[i] = other.boxes[i];
                ticketOn[i] = other.ticketOn[i];
            }
            ticketCount = other.ticketCount;
            for (int i = 0; i < ticketCount; i++) {
                copyTicket(i, other.tickets[i]);
            }
        }

        private void copyTicket(int at, Ticket theirs) {
            if (tickets[at] == null) {
                tickets[at] = new Ticket();
            }
            if (theirs != null) {
                tickets[at].become(theirs);
            }
        }

        // Days and rules

        int passDays(int n) {
            if ((long) today + n > LAST_DAY) {
                return WRONG_DAY;
            }
            if (n < 1 || n > MOST_DAYS) {
                return OUT_OF_BOUNDS;
            }
            today += n;
            for (int number = 1; number <= ticketCount; number++) {
                Ticket ticket = findOpen(number);
                if (ticket != null) {
                    ticket.term.reachDay(today, ticket.principal);
                }
            }
            return today;
        }

        int setRule(int rule, int value) {
            if (rule < 0 || rule >= rules.length) {
                return NO_SUCH;
            }
            if (value < RULES_LOWEST[rule] || value > RULES_HIGHEST[rule]) {
                return OUT_OF_BOUNDS;
            }
            rules[rule] = value;
            return 0;
        }

        // Places and what comes to them

        private static boolean isPlace(int place) {
            return place >= 0 && place < PLACES;
        }

        private boolean isFree(int place) {
            return pledges[place] == null && !boxes[place];
        }

        private static boolean isValue(int value) {
            return value >= 1 && value <= MOST_VALUE;
        }

        /** Why nothing can come to a place, or 0. */
        private int whyNotTo(int place) {
            if (!isPlace(place)) {
                return NO_SUCH;
            }
            return isFree(place) ? 0 : NOT_SO;
        }

        private void putDown(int place, Pledge pledge) {
            pledges[place] = pledge;
            addRow()[Books.PLEDGES]++;
        }

        private long[] addRow() {
            long[] row = books.rowBehind(rowCount, today);
            rowCount = books.countBehind(rowCount);
            return row;
        }

        int bringThing(int place, int value) {
            int why = whyNotTo(place);
            if (why != 0) {
                return why;
            }
            if (!isValue(value)) {
                return OUT_OF_BOUNDS;
            }
            putDown(place, new Thing(value));
            return 0;
        }

        int bringGold(int place, float weight, int fineness) {
            int why = whyNotTo(place);
            if (why != 0) {
                return why;
            }
            if (!Weighed.isWeight(weight) || fineness < 1 || fineness > MOST_FINENESS) {
                return OUT_OF_BOUNDS;
            }
            Gold gold = new Gold(weight, fineness);
            putDown(place, gold);
            return gold.hundredths();
        }

        int bringCoat(int place, int value, int wear) {
            int why = whyNotTo(place);
            if (why != 0) {
                return why;
            }
            if (!isValue(value) || wear < 0 || wear > MOST_WEAR) {
                return OUT_OF_BOUNDS;
            }
            putDown(place, new Coat(value, wear, today));
            return 0;
        }

        int bringRare(int place, float weight) {
            int why = whyNotTo(place);
            if (why != 0) {
                return why;
            }
            if (!Weighed.isWeight(weight)) {
                return OUT_OF_BOUNDS;
            }
            Rare rare = new Rare(weight, 0, 0, 0);
            putDown(place, rare);
            return rare.hundredths();
        }

        int tellValue(int place, int value) {
            if (!isPlace(place)) {
                return NO_SUCH;
            }
            if (ticketOn[place] != 0) {
                return NOT_SO;
            }
            if (pledges[place] instanceof Rare rare) {
                if (!isValue(value)) {
                    return OUT_OF_BOUNDS;
                }
                Rare more = rare.withValue(value);
                pledges[place] = more;
                return more.tellers();
            }
            return NOT_SO;
        }

        int bringItem(int place, int value) {
            if (!isPlace(place)) {
                return NO_SUCH;
            }
            if (isFree(place)) {
                return beginLot(place, value);
            }
            if (ticketOn[place] != 0) {
                return NOT_SO;
            }
            if (pledges[place] instanceof Lot lot) {
                if (!isValue(value) || lot.isFull()) {
                    return OUT_OF_BOUNDS;
                }
                Lot more = lot.withItem(value);
                pledges[place] = more;
                return more.numberOfLatest();
            }
            return NOT_SO;
        }

        private int beginLot(int place, int value) {
            if (!isValue(value)) {
                return OUT_OF_BOUNDS;
            }
            Lot lot = Lot.empty().withItem(value);
            putDown(place, lot);
            return lot.numberOfLatest();
        }

        int moveBox(int place) {
            if (!isPlace(place)) {
                return NO_SUCH;
            }
            if (pledges[place] != null) {
                return NOT_SO;
            }
            boxes[place] = !boxes[place];
            return boxes[place] ? 1 : 0;
        }

        /** Why a place has no pledge that is free of a ticket, or 0. */
        private int whyNotFreeOn(int place) {
            if (!isPlace(place)) {
                return NO_SUCH;
            }
            return pledges[place] == null || ticketOn[place] != 0 ? NOT_SO : 0;
        }

        int takeAway(int place) {
            int why = whyNotFreeOn(place);
            if (why != 0) {
                return why;
            }
            pledges[place] = null;
            addRow()[Books.PLEDGES]--;
            return 0;
        }

        // Lending and the tickets' halves

        private static boolean isTerm(int months) {
            return months >= 1 && months <= MOST_MONTHS;
        }

        private int rateOf(int kind) {
            int rule = RATE + kind;
            return rule >= RATE && rule < PART ? rules[rule] : 0;
        }

        private int partOf(int kind, int worth) {
            int rule = PART + kind;
            return rule >= PART && rule < rules.length ? (int) ((long) worth * rules[rule] / 1000) : 0;
        }

        private int worthOf(Pledge pledge) {
            return pledge.worth(today, rules[PRICE]);
        }

        int lendOn(int place, int amount, int months) {
            int why = whyNotFreeOn(place);
            if (why != 0) {
                return why;
            }
            Pledge pledge = pledges[place];
            if (!isTerm(months) || amount < 1 || amount > partOf(pledge.kind(), worthOf(pledge))) {
                return OUT_OF_BOUNDS;
            }
            if (ticketCount >= MOST_TICKETS) {
                return NO_ROOM;
            }
            Ticket ticket = writeTicket(pledge.kind(), amount, months);
            ticket.place = place;
            ticketOn[place] = ticket.number;
            long[] row = addRow();
            row[Books.LENT] += amount;
            row[Books.PRINCIPAL] += amount;
            row[Books.OPEN_TICKETS]++;
            row[Books.TICKETS]++;
            Books.writeGrowing(row, Books.IS, ticket);
            return ticket.number;
        }

        /** A new one, as image slots must not be shared with tickets that came and went. */
        private Ticket writeTicket(int kind, int amount, int months) {
            Ticket ticket = new Ticket();
            tickets[ticketCount] = ticket;
            ticketCount++;
            ticket.number = ticketCount;
            ticket.kind = kind;
            ticket.principal = amount;
            ticket.holderHalf = 1000 * ticketCount + (7 * amount + 13 * today) % 1000;
            ticket.term.beginAnew(today, months, rateOf(kind));
            ticket.term.reachDay(today, amount);
            return ticket;
        }

        Ticket findTicket(int number) {
            return number >= 1 && number <= ticketCount ? tickets[number - 1] : null;
        }

        private Ticket findOpen(int number) {
            Ticket ticket = findTicket(number);
            return ticket != null && ticket.isOpen() ? ticket : null;
        }

        int latestHalf() {
            Ticket latest = findTicket(ticketCount);
            return latest == null ? 0 : latest.holderHalf;
        }

        int tearHalf(Ticket ticket, int how) {
            if (ticket == null) {
                return NO_SUCH;
            }
            if (ticket.isTorn()) {
                return NOT_SO;
            }
            if (how == 0) {
                ticket.tearAll();
                return 0;
            }
            if (how == 1) {
                ticket.tearAllButNumber();
                return 0;
            }
            return OUT_OF_BOUNDS;
        }

        int hearOath(Ticket ticket) {
            if (ticket == null) {
                return NO_SUCH;
            }
            if (!ticket.isOpen()) {
                return NOT_SO;
            }
            ticket.oathDay = today;
            return 0;
        }

        // What the holder does

        int payPart(Ticket ticket, int half, int coins) {
            if (ticket == null) {
                return NO_SUCH;
            }
            if (!ticket.isHolders()) {
                return NOT_SO;
            }
            if (!ticket.isRight(half, today)) {
                return WRONG_HALF;
            }
            if (coins < 1 || coins >= ticket.owed()) {
                return OUT_OF_BOUNDS;
            }
            int ofInterest = Math.min(coins, ticket.term.interest);
            int ofPrincipal = coins - ofInterest;
            long[] row = addRow();
            Books.writeGrowing(row, Books.WAS, ticket);
            ticket.term.interest -= ofInterest;
            ticket.principal -= ofPrincipal;
            ticket.renewedOn = NONE;
            ticket.endOathBy(half);
            Books.writeGrowing(row, Books.IS, ticket);
            row[Books.GOT_INTEREST] += ofInterest;
            row[Books.GOT_PRINCIPAL] += ofPrincipal;
            row[Books.PRINCIPAL] -= ofPrincipal;
            return ticket.owed();
        }

        /** Why the holder, with this half, may do nothing that a claim forbids, or 0. */
        private int whyNotHolders(Ticket ticket, int half) {
            if (ticket == null) {
                return NO_SUCH;
            }
            if (!ticket.isHolders()) {
                return NOT_SO;
            }
            if (ticket.isClaimed()) {
                return CLAIM_FORBIDS;
            }
            return ticket.isRight(half, today) ? 0 : WRONG_HALF;
        }

        int renewTerm(Ticket ticket, int half, int months) {
            int why = whyNotHolders(ticket, half);
            if (why != 0) {
                return why;
            }
            if (!isTerm(months)) {
                return OUT_OF_BOUNDS;
            }
            int interest = ticket.term.interest;
            long[] row = addRow();
            Books.writeGrowing(row, Books.WAS, ticket);
            ticket.earlier.become(ticket.term);
            ticket.term.beginAnew(ticket.term.nextBeginning(), months, rateOf(ticket.kind));
            ticket.renewedOn = today;
            ticket.endOathBy(half);
            Books.writeGrowing(row, Books.IS, ticket);
            row[Books.GOT_INTEREST] += interest;
            return interest;
        }

        int undoRenewing(Ticket ticket) {
            if (ticket == null) {
                return NO_SUCH;
            }
            if (!ticket.isOpen() || ticket.renewedOn == NONE) {
                return NOT_SO;
            }
            if (ticket.renewedOn != today) {
                return WRONG_DAY;
            }
            long[] row = addRow();
            Books.writeGrowing(row, Books.WAS, ticket);
            ticket.term.become(ticket.earlier);
            ticket.renewedOn = NONE;
            Books.writeGrowing(row, Books.IS, ticket);
            row[Books.GOT_INTEREST] -= ticket.term.interest;
            return ticket.term.interest;
        }

        int giveBack(Ticket ticket, int half, int coins) {
            int why = whyNotHolders(ticket, half);
            if (why != 0) {
                return why;
            }
            if (coins != ticket.owed()) {
                return OUT_OF_BOUNDS;
            }
            ticket.endOathBy(half);
            long[] row = endTicket(ticket, Ticket.REDEEMED);
            row[Books.GOT_INTEREST] += ticket.term.interest;
            row[Books.GOT_PRINCIPAL] += ticket.principal;
            return 0;
        }

        /** The ticket keeps what was owed on it, as looking at it shows that ever after. */
        private long[] endTicket(Ticket ticket, int standing) {
            long[] row = addRow();
            Books.writeGrowing(row, Books.WAS, ticket);
            row[Books.PRINCIPAL] -= ticket.principal;
            row[Books.OPEN_TICKETS]--;
            row[Books.PLEDGES]--;
            ticket.standing = standing;
            if (isPlace(ticket.place)) {
                pledges[ticket.place] = null;
                ticketOn[ticket.place] = 0;
            }
            return row;
        }

        int takeItemOut(Ticket ticket, int half, int item) {
            if (ticket == null || item < 0 || item >= ITEMS) {
                return NO_SUCH;
            }
            Lot lot = lotUnder(ticket);
            if (lot == null || !lot.holds(item)) {
                return NOT_SO;
            }
            int why = whyNotHolders(ticket, half);
            if (why != 0) {
                return why;
            }
            Lot rest = lot.withoutItem(item);
            int worth = worthOf(rest);
            if (rest.itemCount() == 0 || ticket.owed() > partOf(LOT, worth)) {
                return OUT_OF_BOUNDS;
            }
            pledges[ticket.place] = rest;
            ticket.renewedOn = NONE;
            ticket.endOathBy(half);
            return worth;
        }

        private Lot lotUnder(Ticket ticket) {
            if (ticket.isHolders() && isPlace(ticket.place) && pledges[ticket.place] instanceof Lot lot) {
                return lot;
            }
            return null;
        }

        // Forfeits and sales

        int makeForfeit(Ticket ticket) {
            if (ticket == null) {
                return NO_SUCH;
            }
            if (!ticket.isHolders()) {
                return NOT_SO;
            }
            if (ticket.isClaimed()) {
                return CLAIM_FORBIDS;
            }
            if (today < ticket.forfeitDay(today, rules[GRACE])) {
                return WRONG_DAY;
            }
            ticket.forfeited = true;
            return ticket.owed();
        }

        int hearBid(Ticket ticket, int coins) {
            if (ticket == null) {
                return NO_SUCH;
            }
            if (!ticket.isForSale()) {
                return NOT_SO;
            }
            if (coins < 1 || coins > MOST_BID) {
                return OUT_OF_BOUNDS;
            }
            ticket.bids++;
            ticket.highestBid = Math.max(ticket.highestBid, coins);
            return ticket.bids;
        }

        int sellPledge(Ticket ticket) {
            if (ticket == null) {
                return NO_SUCH;
            }
            if (!ticket.isForSale() || ticket.bids == 0) {
                return NOT_SO;
            }
            if (ticket.isClaimed()) {
                return CLAIM_FORBIDS;
            }
            int costs = cutUp(ticket.highestBid, rules[SALE_COSTS]);
            int got = ticket.highestBid - costs;
            int ofInterest = Math.min(got, ticket.term.interest);
            int ofPrincipal = Math.min(got - ofInterest, ticket.principal);
            ticket.over = got - ofInterest - ofPrincipal;
            ticket.soldOn = today;
            ticket.keptUpTo = today + rules[DAYS_KEPT];
            long[] row = endTicket(ticket, Ticket.SOLD);
            row[Books.COSTS] += costs;
            row[Books.GOT_INTEREST] += ofInterest;
            row[Books.GOT_PRINCIPAL] += ofPrincipal;
            row[Books.LOSS] += ticket.owed() - ofInterest - ofPrincipal;
            row[Books.LOST_PRINCIPAL] += ticket.principal - ofPrincipal;
            return ticket.highestBid;
        }

        int handOver(Ticket ticket, int half) {
            if (ticket == null) {
                return NO_SUCH;
            }
            if (ticket.over == 0 || ticket.fetchedOn != NONE) {
                return NOT_SO;
            }
            if (!ticket.isRight(half, today)) {
                return WRONG_HALF;
            }
            if (!ticket.isKeptOver(today)) {
                return WRONG_DAY;
            }
            ticket.fetchedOn = today;
            ticket.endOathBy(half);
            addRow()[Books.FETCHED] += ticket.over;
            return ticket.over;
        }

        // Claims

        int raiseClaim(Ticket ticket) {
            if (ticket == null) {
                return NO_SUCH;
            }
            if (!ticket.isOpen()) {
                return NOT_SO;
            }
            if (ticket.isClaimed()) {
                return CLAIM_FORBIDS;
            }
            ticket.claimDay = today;
            ticket.renewedOn = NONE;
            return 0;
        }

        /** Why no claim stands that could be dropped or proved, or 0. */
        private static int whyNotClaimed(Ticket ticket) {
            if (ticket == null) {
                return NO_SUCH;
            }
            if (!ticket.isOpen()) {
                return NOT_SO;
            }
            return ticket.isClaimed() ? 0 : CLAIM_FORBIDS;
        }

        int dropClaim(Ticket ticket) {
            int why = whyNotClaimed(ticket);
            if (why != 0) {
                return why;
            }
            ticket.endClaim(today);
            return ticket.term.claimedDays;
        }

        int proveClaim(Ticket ticket) {
            int why = whyNotClaimed(ticket);
            if (why != 0) {
                return why;
            }
            ticket.endClaim(today);
            long[] row = endTicket(ticket, Ticket.PROVED);
            row[Books.LOSS] += ticket.owed();
            row[Books.LOST_PRINCIPAL] += ticket.principal;
            return ticket.owed();
        }

        // Looking

        long lookAtPlace(int place, int what) {
            if (!isPlace(place) || what < 0 || what > 6) {
                return NONE;
            }
            Pledge pledge = pledges[place];
            if (pledge == null) {
                return what == 0 ? boxOrNothing(place) : 0;
            }
            switch (what) {
                case 0: return pledge.kind();
                case 1: return worthOf(pledge);
                case 2: return ticketOn[place];
                case 3: return pledge.hundredths();
                case 4: return pledge.leftOver();
                case 5: return pledge.itemCount();
                default: return pledge.tellers();
            }
        }

        private int boxOrNothing(int place) {
            return boxes[place] ? BOX : NONE;
        }

        int lookAtTicket(Ticket ticket, int what) {
            if (ticket == null) {
                return NONE;
            }
            switch (what) {
                case 0: return ticket.standing;
                case 1: return ticket.principal;
                case 2: return ticket.term.interest;
                case 3: return ticket.term.begun;
                case 4: return ticket.term.start;
                case 5: return ticket.term.months;
                case 6: return ticket.term.rate;
                case 7: return ticket.forfeited ? 1 : 0;
                case 8: return ticket.forfeitDay(today, rules[GRACE]);
                case 9: return ticket.isClaimed() ? 1 : 0;
                case 10: return ticket.term.claimedDays;
                case 11: return ticket.highestBid;
                case 12: return ticket.over;
                case 13: return ticket.overState(today);
                case 14: return ticket.place;
                case 15: return ticket.numberInHouseHalf();
                case 16: return ticket.halfInHouseHalf();
                case 17: return ticket.oathDay;
                default: return NONE;
            }
        }

        long sumOn(int day, int what) {
            if (day < 0 || day > today || what < 0 || what >= Books.SUMS) {
                return NONE;
            }
            if (what == Books.KEPT_OVERS || what == Books.HOUSES_OVERS) {
                return oversOn(day, what == Books.KEPT_OVERS);
            }
            int upTo = books.rowsUpTo(day, rowCount);
            return what == Books.INTEREST ? books.interestOn(day, upTo) : books.total(what, upTo);
        }

        private long oversOn(int day, boolean kept) {
            long together = 0;
            for (int number = 1; number <= ticketCount; number++) {
                Ticket ticket = findTicket(number);
                if (ticket != null && (kept ? ticket.isKeptOver(day) : ticket.isHousesOver(day))) {
                    together += ticket.over;
                }
            }
            return together;
        }

        int countFaults() {
            int faults = 0;
            if (!areCoinsThere()) {
                faults++;
            }
            if (!isEachUnderOneAtMost()) {
                faults++;
            }
            if (!isEachOpenOnItsPlace()) {
                faults++;
            }
            return faults;
        }

        private boolean areCoinsThere() {
            long there = books.total(Books.GOT_PRINCIPAL, rowCount) + books.total(Books.LOST_PRINCIPAL, rowCount);
            for (int number = 1; number <= ticketCount; number++) {
                Ticket ticket = findOpen(number);
                if (ticket != null) {
                    there += ticket.principal;
                }
            }
            return there == books.total(Books.LENT, rowCount);
        }

        private boolean isEachUnderOneAtMost() {
            for (int place = 0; place < PLACES; place++) {
                if (countOpenOn(place) > 1) {
                    return false;
                }
            }
            return true;
        }

        private int countOpenOn(int place) {
            int open = 0;
            for (int number = 1; number <= ticketCount; number++) {
                Ticket ticket = findOpen(number);
                if (ticket != null && ticket.place == place) {
                    open++;
                }
            }
            return open;
        }

        private boolean isEachOpenOnItsPlace() {
            for (int number = 1; number <= ticketCount; number++) {
                Ticket ticket = findOpen(number);
                if (ticket != null && !isOnItsPlace(ticket)) {
                    return false;
                }
            }
            return true;
        }

        private boolean isOnItsPlace(Ticket ticket) {
            return isPlace(ticket.place) && pledges[ticket.place] != null && ticketOn[ticket.place] == ticket.number;
        }
    }
}
