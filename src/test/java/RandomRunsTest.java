import java.util.ArrayList;
import java.util.List;

/** Long runs of mixed calls, whose answers are held against what other calls tell. */
public final class RandomRunsTest {
    private static final int[] ODD = {Integer.MIN_VALUE, -1000, -1, 0, 1, 2, 7, 8, 11, 100, 5000, 5001, 20000, 20001,
        65536, Integer.MAX_VALUE};

    private final CiderShop shop = new CiderShop();
    private final List<int[]> calls = new ArrayList<>();
    private final List<String> states = new ArrayList<>();
    private long seed;

    private RandomRunsTest(long seed) {
        this.seed = seed;
    }

    public static void main(String[] args) {
        for (int run = 1; run <= 150; run++) {
            new RandomRunsTest(run * 7919L).run();
        }
        Check.finish("RandomRunsTest");
    }

    private int below(int bound) {
        seed = seed * 6364136223846793005L + 1442695040888963407L;
        return (int) ((seed >>> 33) % bound);
    }

    private void run() {
        for (int i = 0; i < 300; i++) {
            step(nextCall());
        }
        for (int tank = 0; tank < shop.count(1); tank++) {
            for (int label = 0; label < 4; label++) {
                Check.due("daysTo", shop.daysTo(tank, label), daysByLiving(tank, label));
                int other = below(shop.count(1));
                if (other != tank) {
                    Check.due("blendFor", shop.blendFor(tank, other, label), amountByMoving(tank, other, label));
                }
            }
        }
    }

    private int[] nextCall() {
        int[] call = {below(18), number(), number(), number(), number(), number(), number()};
        if (below(12) != 0) {
            likely(call);
        }
        return call;
    }

    private int number() {
        return below(4) == 0 ? ODD[below(ODD.length)] : below(400);
    }

    /** Makes arguments that are mostly in range. */
    private void likely(int[] call) {
        int[][] bounds = {{6, 501, 201, 101, 1, 1}, {21, 101, 501, 301, 1, 1}, {4, 120, 300, 60, 300, 60},
            {6, 4000, 1, 1, 1, 1}, {600, 1, 1, 1, 1, 1}, {8, 300, 6, 1, 1, 1}, {150, 6, 1, 1, 1, 1}, {1, 1, 1, 1, 1, 1},
            {6, 150, 6, 1, 1, 1}, {6, 6, 1, 1, 1, 1}, {6, 1, 1, 1, 1, 1}, {6, 1, 1, 1, 1, 1}, {6, 4, 10, 9, 1, 1}};
        if (call[0] < bounds.length) {
            for (int i = 0; i < 6; i++) {
                call[i + 1] = below(bounds[call[0]][i]);
            }
        }
        if (call[0] == 0) {
            call[2] += 300;
        }
        if (call[0] == 12) {
            call[3]++;
        }
    }

    private void step(int[] call) {
        String before = Shops.state(shop);
        int reason = shop.count(4);
        int saved = shop.count(6);
        if (call[0] == 17) {
            undo();
            return;
        }
        int answer = make(shop, call);
        String name = "call " + call[0] + ": ";
        if (answer >= 0) {
            calls.add(call);
            states.add(before);
            Check.due(name + "saved", shop.count(6), Math.min(6, saved + 1));
            Check.due(name + "reason", shop.count(4), 0);
        } else {
            Check.due(name + "state", Shops.state(shop), before);
            Check.due(name + "saved", shop.count(6), saved);
            if (answer != Shops.ILLEGAL && answer > -1000) {
                Check.due(name + "reason", shop.count(4), reason);
            }
        }
        checkBalance(name);
    }

    private void undo() {
        int saved = shop.count(6);
        int answer = shop.undo();
        Check.due("undo", answer, saved == 0 ? Shops.ILLEGAL : saved - 1);
        if (saved > 0) {
            calls.remove(calls.size() - 1);
            Check.due("undone", Shops.state(shop), states.remove(states.size() - 1));
        }
    }

    private void checkBalance(String name) {
        int gone = 0;
        for (int what = 2; what <= 10; what++) {
            gone += shop.account(what);
        }
        Check.due(name + "both ways", gone, shop.account(0) + shop.account(1));
        for (int tank = 0; tank < shop.count(1); tank++) {
            int juice = shop.tank(tank, 1);
            Check.due(name + "haze is a part of the juice", shop.tank(tank, 4) <= juice ? 1 : 0, 1);
            Check.due(name + "room", shop.tank(tank, 0) - juice - shop.tank(tank, 5), shop.tank(tank, 7));
            for (int what = 1; what <= 7; what++) {
                Check.due(name + "not below 0", shop.tank(tank, what) >= 0 ? 1 : 0, 1);
            }
        }
    }

    private static int make(CiderShop shop, int[] c) {
        switch (c[0]) {
            case 0:
                return shop.setVariety(c[1], c[2], c[3], c[4]);
            case 1:
                return shop.setRates(c[1], c[2], c[3], c[4]);
            case 2:
                return shop.setLabel(c[1], c[2], c[3], c[4], c[5], c[6]);
            case 3:
                return shop.buy(c[1], c[2]);
            case 4:
                return shop.addTank(c[1]);
            case 5:
                return shop.press(c[1], c[2], c[3]);
            case 6:
                return shop.wet(c[1], c[2]);
            case 7:
                return c[1] % 3 == 0 ? shop.sellPomace() : shop.day();
            case 8:
                return shop.move(c[1], c[2], c[3]);
            case 9:
                return shop.rack(c[1], c[2]);
            case 10:
                return shop.clean(c[1]);
            case 11:
                return shop.pour(c[1]);
            case 12:
                return shop.bottle(c[1], c[2], c[3], c[4]);
            case 13:
            case 14:
                return Shops.run(shop, script(c));
            default:
                return shop.day();
        }
    }

    private static String script(int[] c) {
        String[] parts = {"day;", "press 0 " + c[1] + " 0;", "move 0 9 1;", "rack1 0;", "wet 12 0;", "clean 1;",
            "bottle 0 0 1 2;", "press" + c[2] + " 5 2;"};
        StringBuilder text = new StringBuilder();
        for (int i = 3; i <= 5; i++) {
            text.append(parts[c[i] & 7]);
        }
        return text.length() <= 100 ? text.toString() : "";
    }

    /** A shop to which all has been done that has not been undone. */
    private CiderShop again() {
        CiderShop other = new CiderShop();
        for (int[] call : calls) {
            make(other, call);
        }
        other.clearText();
        Check.due("done again", Shops.state(other), Shops.state(shop));
        return other;
    }

    private int daysByLiving(int tank, int label) {
        CiderShop other = again();
        for (int days = 0; days <= 60; days++) {
            if (other.why(tank, label) == 0) {
                return days;
            }
            other.day();
        }
        return Shops.NONE;
    }

    private int amountByMoving(int from, int to, int label) {
        if (shop.why(to, label) == 0) {
            return 0;
        }
        CiderShop other = again();
        int most = Math.min(other.tank(from, 1), other.tank(to, 7));
        for (int amount = 1; amount <= most; amount++) {
            Check.due("move goes", other.move(from, amount, to) >= 0 ? 1 : 0, 1);
            int why = other.why(to, label);
            other.undo();
            if (why == 0) {
                return amount;
            }
        }
        return Shops.NONE;
    }
}
