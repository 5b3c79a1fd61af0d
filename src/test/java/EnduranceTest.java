import java.lang.reflect.Method;
import java.util.Random;

/** Far behind the promised 512 calls answers are free, but still no call may throw. */
public final class EnduranceTest {
    private static final int OBJECTS = 20;
    private static final int CALLS = 20_000;
    private static final int TICKETS = 600;
    private static final int ROOM = 511;

    private static final int[] EDGES = {Integer.MIN_VALUE, -1, 0, 1, 2, 3, 5, 6, 7, 12, 13, 17, 39, 40, 399, 511, 512, 513, 7300,
        1000000, 10000000, Integer.MAX_VALUE};
    private static final float[] WEIGHTS = {Float.NaN, 0f, -0f, 1f, 9999.999f, 10000f, Float.MAX_VALUE, Float.NEGATIVE_INFINITY};

    public static void main(String[] arguments) throws ReflectiveOperationException {
        for (int seed = 0; seed < OBJECTS; seed++) {
            callWildly(new Random(seed));
        }
        fillWithTickets();
        System.out.println(OBJECTS + " objects bore " + CALLS + " wild calls each");
    }

    private static void callWildly(Random random) throws ReflectiveOperationException {
        PledgeHouse house = new PledgeHouse();
        Method[] methods = PledgeHouse.class.getMethods();
        for (int i = 0; i < CALLS; i++) {
            Method method = methods[random.nextInt(methods.length)];
            if (method.getDeclaringClass() == PledgeHouse.class) {
                method.invoke(house, wildArguments(method, random));
            }
        }
    }

    private static Object[] wildArguments(Method method, Random random) {
        Class<?>[] types = method.getParameterTypes();
        Object[] wild = new Object[types.length];
        for (int i = 0; i < wild.length; i++) {
            if (types[i] == float.class) {
                wild[i] = WEIGHTS[random.nextInt(WEIGHTS.length)];
            } else {
                wild[i] = random.nextBoolean() ? EDGES[random.nextInt(EDGES.length)] : random.nextInt(40);
            }
        }
        return wild;
    }

    /** No run of 512 calls can write 511 tickets, so that there is no more room shows only here. */
    private static void fillWithTickets() {
        PledgeHouse house = new PledgeHouse();
        for (int number = 1; number <= TICKETS; number++) {
            house.thing(0, 1000);
            due("lend(0, 500, 1)", house.lend(0, 500, 1), number <= ROOM ? number : -7);
            house.image();
            house.redeem(number, house.half(), house.told(number, 1) + house.told(number, 2));
            house.back();
            house.redeem(number, house.half(), house.told(number, 1) + house.told(number, 2));
            house.check();
        }
        lendWhereNoRoomIs(house);
    }

    private static void lendWhereNoRoomIs(PledgeHouse house) {
        due("lend(0, 500, 1), once more", house.lend(0, 500, 1), -7);
        due("status()", house.status(), -7);
        due("lend(40, 500, 1)", house.lend(40, 500, 1), -1);
        due("lend(1, 500, 1), where nothing is", house.lend(1, 500, 1), -2);
        due("lend(0, 0, 1)", house.lend(0, 0, 1), -6);
        due("lend(0, 500, 13)", house.lend(0, 500, 13), -6);
        due("place(0, 2)", house.place(0, 2), 0);
        due("told(511, 0)", house.told(ROOM, 0), 1);
        due("told(512, 0)", house.told(ROOM + 1, 0), -1);
        due("half()", house.half(), 1000 * ROOM + 500);
    }

    private static void due(String call, long got, long want) {
        if (got != want) {
            System.out.println(call + " answered " + got + ", due is " + want);
            System.exit(1);
        }
    }
}
