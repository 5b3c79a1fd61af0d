/** Runs in which all calls up to the last promised one move pledges or coins: the books must have room for each. */
public final class LongRunTest {
    private static final int CALLS = 512;
    private static final int PLACES = 40;

    private static int wrong;

    public static void main(String[] arguments) {
        bringAndTakeAway();
        payEachDay();
        writeAsManyTicketsAsCanBe();
        System.out.println(wrong == 0 ? "long runs are as due" : wrong + " answers of long runs are not as due");
        if (wrong != 0) {
            System.exit(1);
        }
    }

    private static void bringAndTakeAway() {
        PledgeHouse house = new PledgeHouse();
        int calls = 0;
        while (calls < CALLS - 1) {
            due("thing or away", calls % 2 == 0 ? house.thing(0, 5) : house.away(0), 0);
            calls++;
        }
        due("sum(11)", house.sum(11), 1);
    }

    private static void payEachDay() {
        PledgeHouse house = new PledgeHouse();
        house.thing(0, 1000);
        house.lend(0, 500, 12);
        int calls = 2;
        int principal = 500;
        int interest = 10;
        int days = 0;
        while (calls < CALLS - 2) {
            days++;
            due("day(1)", house.day(1), days);
            interest += days % 30 == 0 ? (principal * 20 + 999) / 1000 : 0;
            if (interest > 0) {
                interest--;
            } else {
                principal--;
            }
            due("pay(1, 1500, 1)", house.pay(1, 1500, 1), principal + interest);
            calls += 2;
        }
        due("sum(8)", house.sum(8), principal);
        due("sum(9)", house.sum(9), interest);
    }

    /** A ticket needs a pledge of its own, so behind the first 40 each one takes three calls. */
    private static void writeAsManyTicketsAsCanBe() {
        PledgeHouse house = new PledgeHouse();
        int calls = 0;
        int tickets = 0;
        while (calls + 3 <= CALLS - 6) {
            int place = tickets % PLACES;
            if (tickets >= PLACES) {
                int oldest = tickets - PLACES + 1;
                due("redeem", house.redeem(oldest, 1000 * oldest + 7, 2), 0);
                calls++;
            }
            due("thing", house.thing(place, 2), 0);
            tickets++;
            due("lend", house.lend(place, 1, 1), tickets);
            calls += 2;
        }
        due("told, the first", house.told(1, 0), 1);
        due("told, the last", house.told(tickets, 14), (tickets - 1) % PLACES);
        due("half()", house.half(), 1000 * tickets + 7);
        due("sum(10)", house.sum(10), PLACES);
        due("sum(12)", house.sum(12), tickets);
        due("check()", house.check(), 0);
    }

    private static void due(String call, long got, long want) {
        if (got != want) {
            wrong++;
            System.out.println(call + " answered " + got + ", due is " + want);
        }
    }
}
