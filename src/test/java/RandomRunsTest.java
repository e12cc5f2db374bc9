import java.util.ArrayList;
import java.util.List;

/**
 * Runs of mixed calls, always the same ones, whose answers are held against what other calls tell. Nothing is promised
 * of an object after its 512th call, so each look is a look at a new object, with which the run was done again.
 */
public final class RandomRunsTest {
    private static final int[] ODD = {Integer.MIN_VALUE, -1000, -1, 0, 1, 2, 7, 8, 11, 100, 5000, 5001, 20000, 20001,
        65536, Integer.MAX_VALUE};
    private static final int UNDO = 17;
    private static final int OBJECT_CALLS = 512;
    /** Of a run; to look at everything after it takes up to 260 more. */
    private static final int RUN_CALLS = OBJECT_CALLS - 260;

    private final List<int[]> calls = new ArrayList<>();
    private final List<String> states = new ArrayList<>();
    private String state = Shops.state(new CiderShop());
    private int reason = 0;
    private int saved = 0;
    private int made = 0;
    private long seed;

    private RandomRunsTest(long seed) {
        this.seed = seed;
    }

    public static void main(String[] args) {
        for (int run = 1; run <= 200; run++) {
            new RandomRunsTest(run * 7919L).run();
        }
        Check.finish("RandomRunsTest");
    }

    private int below(int bound) {
        seed = seed * 6364136223846793005L + 1442695040888963407L;
        return (int) ((seed >>> 33) % bound);
    }

    private void run() {
        for (int i = 0; i < OBJECT_CALLS; i++) {
            int[] call = nextCall();
            if (made + callsOf(call) > RUN_CALLS) {
                break;
            }
            step(call);
        }
        CiderShop shop = again();
        for (int tank = 0; tank < shop.count(1); tank++) {
            for (int label = 0; label < 4; label++) {
                Check.due("daysTo", shop.daysTo(tank, label), daysByLiving(tank, label));
                int other = below(shop.count(1));
                if (other != tank) {
                    Check.due("blendFor", shop.blendFor(tank, other, label), amountByMoving(tank, other, label));
                }
            }
        }
    }

    /** How many calls of the shop it is: a script is typed first. */
    private static int callsOf(int[] call) {
        return call[0] == 13 || call[0] == 14 ? script(call).length() + 2 : 1;
    }

    /** A new shop to which all has been done that this run did. */
    private CiderShop again() {
        CiderShop shop = new CiderShop();
        for (int[] call : calls) {
            make(shop, call);
        }
        return shop;
    }

    private int[] nextCall() {
        int[] call = {below(18), number(), number(), number(), number(), number(), number()};
        if (below(12) != 0) {
            likely(call);
        }
        return call;
    }

    private int number() {
        return below(4) == 0 ? ODD[below(ODD.length)] : below(400);
    }

    /** Makes arguments that are mostly in range. */
    private void likely(int[] call) {
        int[][] bounds = {{6, 501, 201, 101, 1, 1}, {21, 101, 501, 301, 1, 1}, {4, 120, 300, 60, 300, 60},
            {6, 4000, 1, 1, 1, 1}, {600, 1, 1, 1, 1, 1}, {8, 300, 6, 1, 1, 1}, {150, 6, 1, 1, 1, 1}, {1, 1, 1, 1, 1, 1},
            {6, 150, 6, 1, 1, 1}, {6, 6, 1, 1, 1, 1}, {6, 1, 1, 1, 1, 1}, {6, 1, 1, 1, 1, 1}, {6, 4, 10, 9, 1, 1}};
        if (call[0] < bounds.length) {
            for (int i = 0; i < 6; i++) {
                call[i + 1] = below(bounds[call[0]][i]);
            }
        }
        if (call[0] == 0) {
            call[2] += 300;
        }
        if (call[0] == 12) {
            call[3]++;
        }
    }

    private void step(int[] call) {
        CiderShop shop = again();
        int answer = make(shop, call);
        calls.add(call);
        made += callsOf(call);
        String after = Shops.state(shop);
        String name = "call " + call[0] + ": ";
        if (call[0] == UNDO) {
            checkUndo(answer, after);
        } else if (answer >= 0) {
            states.add(state);
            saved = Math.min(6, saved + 1);
            reason = 0;
        } else {
            Check.due(name + "state", after, state);
            if (answer == Shops.ILLEGAL || answer <= -1000) {
                reason = shop.count(4);
            }
        }
        Check.due(name + "reason", shop.count(4), reason);
        Check.due(name + "saved", shop.count(6), saved);
        checkBalance(shop, name);
        state = after;
    }

    private void checkUndo(int answer, String after) {
        if (saved == 0) {
            Check.due("undo of none", answer, Shops.ILLEGAL);
            Check.due("nothing undone", after, state);
        } else {
            saved--;
            Check.due("undo", answer, saved);
            Check.due("undone", after, states.remove(states.size() - 1));
        }
    }

    private static void checkBalance(CiderShop shop, String name) {
        int gone = 0;
        for (int what = 2; what <= 10; what++) {
            gone += shop.account(what);
        }
        Check.due(name + "both ways", gone, shop.account(0) + shop.account(1));
        int tanks = shop.count(1);
        for (int tank = 0; tank < tanks; tank++) {
            int juice = shop.tank(tank, 1);
            Check.due(name + "haze is a part of the juice", shop.tank(tank, 4) <= juice ? 1 : 0, 1);
            Check.due(name + "room", shop.tank(tank, 0) - juice - shop.tank(tank, 5), shop.tank(tank, 7));
            for (int what = 1; what <= 7; what++) {
                Check.due(name + "not below 0", shop.tank(tank, what) >= 0 ? 1 : 0, 1);
            }
        }
    }

    private static int make(CiderShop shop, int[] c) {
        switch (c[0]) {
            case 0:
                return shop.setVariety(c[1], c[2], c[3], c[4]);
            case 1:
                return shop.setRates(c[1], c[2], c[3], c[4]);
            case 2:
                return shop.setLabel(c[1], c[2], c[3], c[4], c[5], c[6]);
            case 3:
                return shop.buy(c[1], c[2]);
            case 4:
                return shop.addTank(c[1]);
            case 5:
                return shop.press(c[1], c[2], c[3]);
            case 6:
                return shop.wet(c[1], c[2]);
            case 7:
                return c[1] % 3 == 0 ? shop.sellPomace() : shop.day();
            case 8:
                return shop.move(c[1], c[2], c[3]);
            case 9:
                return shop.rack(c[1], c[2]);
            case 10:
                return shop.clean(c[1]);
            case 11:
                return shop.pour(c[1]);
            case 12:
                return shop.bottle(c[1], c[2], c[3], c[4]);
            case 13:
            case 14:
                return Shops.run(shop, script(c));
            case UNDO:
                return shop.undo();
            default:
                return shop.day();
        }
    }

    private static String script(int[] c) {
        String[] parts = {"day;", "press 0 " + c[1] + " 0;", "move 0 9 1;", "rack1 0;", "wet 12 0;", "clean 1;",
            "bottle 0 0 1 2;", "press" + c[2] + " 5 2;"};
        StringBuilder text = new StringBuilder();
        for (int i = 3; i <= 5; i++) {
            text.append(parts[c[i] & 7]);
        }
        return text.length() <= 100 ? text.toString() : "";
    }

    private int daysByLiving(int tank, int label) {
        CiderShop other = again();
        for (int days = 0; days <= 60; days++) {
            if (other.why(tank, label) == 0) {
                return days;
            }
            other.day();
        }
        return Shops.NONE;
    }

    private int amountByMoving(int from, int to, int label) {
        CiderShop shop = again();
        if (shop.why(to, label) == 0) {
            return 0;
        }
        int most = Math.min(shop.tank(from, 1), shop.tank(to, 7));
        for (int amount = 1; amount <= most; amount++) {
            if (amount % 80 == 0) {
                shop = again();
            }
            Check.due("move goes", shop.move(from, amount, to) >= 0 ? 1 : 0, 1);
            int why = shop.why(to, label);
            shop.undo();
            if (why == 0) {
                return amount;
            }
        }
        return Shops.NONE;
    }
}
