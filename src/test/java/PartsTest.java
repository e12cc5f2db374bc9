/**
 * The parts Lots, Pressing, Tanks, Labels and bottles, and Accounts of the description: each test holds the sentence
 * that stands above it, at its edges.
 */
public final class PartsTest {
    public static void main(String[] args) {
        longestLife();
        lotsAreEight();
        lotsMayBeEmpty();
        lotsDry();
        lotsDryEachForItself();
        pressingRoundsDown();
        pressingTakesTheWholeLot();
        hazeOfPressing();
        sugarAndAcidWeighNothing();
        wetRoundsDown();
        heapIsPressedAgainAndAgain();
        tanksAreSix();
        contentsAreAtMostTheRoom();
        leesTakeRoom();
        nothingAlwaysHasRoom();
        hazeSettles();
        sugarFerments();
        moveTakesAlong();
        moveOfAllAndOfOne();
        movedHazeIsPartOfTheAmount();
        leesStay();
        cleaned();
        accountsAtFirst();
        accountsAtTheGreatest();
        Check.finish("PartsTest");
    }

    private static void dueTank(String name, CiderShop shop, int tank, int... properties) {
        for (int what = 0; what < properties.length; what++) {
            Check.due(name + ": tank(" + tank + ", " + what + ")", shop.tank(tank, what), properties[what]);
        }
    }

    /** Two tanks of 1000, the first with the given juice; its sugar, acid and haze are told for 1000 of juice. */
    private static CiderShop ofJuice(int juice, int sugar, int acid, int haze) {
        CiderShop shop = new CiderShop();
        shop.setRates(0, haze, 500, 300);
        shop.setVariety(0, 500, sugar, acid);
        shop.buy(0, 20000);
        shop.addTank(1000);
        shop.addTank(1000);
        shop.press(0, 2 * juice, 0);
        return shop;
    }

    private static int gone(CiderShop shop) {
        int sum = 0;
        for (int what = 2; what <= 10; what++) {
            sum += shop.account(what);
        }
        return sum;
    }

    /** "An object is used for at most 512 calls after it has been made." */
    private static void longestLife() {
        CiderShop shop = new CiderShop();
        shop.buy(0, 20000);
        for (int call = 2; call <= 505; call++) {
            Check.due("512 calls: day", shop.day(), call - 1);
        }
        for (int left = 5; left >= 0; left--) {
            Check.due("512 calls: undo", shop.undo(), left);
        }
        Check.due("512 calls: the last one", shop.count(3), 498);
    }

    // ---- Lots

    /** "There are at most 8 lots, numbered from 0 in the order in which they were bought." */
    private static void lotsAreEight() {
        CiderShop shop = new CiderShop();
        for (int lot = 0; lot < 8; lot++) {
            Check.due("lots: not there yet", shop.lot(lot, 0), Shops.INVALID);
            Check.due("lots: number", shop.buy(lot % 6, 100 + lot), lot);
        }
        Check.due("lots: a ninth", shop.buy(0, 1), Shops.FULL);
        for (int lot = 0; lot < 8; lot++) {
            Check.due("lots: variety", shop.lot(lot, 0), lot % 6);
            Check.due("lots: mass", shop.lot(lot, 1), 100 + lot);
        }
        Check.due("lots: no ninth", shop.lot(8, 0), Shops.INVALID);
    }

    /** "A lot has a variety and a mass of apples, 0 or more": one that was used up keeps its number and its place. */
    private static void lotsMayBeEmpty() {
        CiderShop shop = new CiderShop();
        shop.addTank(5000);
        for (int lot = 0; lot < 8; lot++) {
            shop.buy(3, 100);
            Check.due("lots: all of it", shop.press(lot, 100, 0), 60);
            Check.due("lots: none left", shop.lot(lot, 1), 0);
            Check.due("lots: its variety stays", shop.lot(lot, 0), 3);
        }
        Check.due("lots: empty ones count", shop.count(0), 8);
        Check.due("lots: and take their place", shop.buy(0, 1), Shops.FULL);
        Check.due("lots: 1 is more than none", shop.press(7, 1, 0), Shops.ILLEGAL);
        Check.due("lots: its reason", shop.count(4), 11);
        shop.setRates(20, 0, 0, 0);
        shop.day();
        Check.due("lots: none dries away", shop.account(2), 0);
        Check.due("lots: none is left", shop.lot(0, 1), 0);
    }

    /** "Each day, a lot loses mass * W / 1000 by drying, where W is the drying, 0 to 20 (at first 3)." */
    private static void lotsDry() {
        int[][] rows = {{3, 333, 0}, {3, 334, 1}, {3, 666, 1}, {3, 667, 2}, {3, 1, 0}, {3, 20000, 60}, {20, 49, 0},
            {20, 50, 1}, {20, 99, 1}, {20, 100, 2}, {20, 20000, 400}, {1, 999, 0}, {1, 1000, 1}, {0, 20000, 0}};
        for (int[] r : rows) {
            CiderShop shop = new CiderShop();
            shop.setRates(r[0], 40, 200, 50);
            shop.buy(0, r[1]);
            shop.day();
            Check.due("drying " + r[0] + " of " + r[1], r[1] - shop.lot(0, 1), r[2]);
            Check.due("dried away", shop.account(2), r[2]);
        }
        CiderShop shop = new CiderShop();
        shop.buy(0, 334);
        shop.day();
        Check.due("drying at first", shop.lot(0, 1), 333);
    }

    /** "a lot loses": what is rounded down is the loss of each lot, not that of all. */
    private static void lotsDryEachForItself() {
        CiderShop shop = new CiderShop();
        for (int lot = 0; lot < 8; lot++) {
            shop.buy(0, lot == 7 ? 334 : 333);
        }
        shop.day();
        Check.due("drying: seven lots lose nothing, the last one 1", shop.account(2), 1);
        Check.due("drying: the last one", shop.lot(7, 1), 333);
        shop.day();
        Check.due("drying: now none", shop.account(2), 1);
    }

    // ---- Pressing

    /** "juice = m * yield / 1000 .. sugar = juice * (sugar of the variety) / 1000 .. the rest, m - juice, is pomace" */
    private static void pressingRoundsDown() {
        // yield, sugar, acid, mass; juice, sugar, acid, pomace
        int[][] rows = {{300, 200, 100, 3, 0, 0, 0, 3}, {300, 200, 100, 4, 1, 0, 0, 3}, {800, 200, 100, 1, 0, 0, 0, 1},
            {800, 200, 100, 2, 1, 0, 0, 1}, {500, 200, 100, 8, 4, 0, 0, 4}, {500, 200, 100, 10, 5, 1, 0, 5},
            {500, 200, 100, 18, 9, 1, 0, 9}, {500, 200, 100, 20, 10, 2, 1, 10}, {500, 0, 0, 2000, 1000, 0, 0, 1000},
            {500, 1, 1, 1999, 999, 0, 0, 1000}, {500, 1, 1, 2000, 1000, 1, 1, 1000},
            {300, 200, 100, 16669, 5000, 1000, 500, 11669}, {800, 200, 100, 6250, 5000, 1000, 500, 1250}};
        for (int[] r : rows) {
            CiderShop shop = new CiderShop();
            shop.setVariety(1, r[0], r[1], r[2]);
            shop.buy(1, 20000);
            shop.addTank(5000);
            Check.due("pressing: juice of " + r[3], shop.press(0, r[3], 0), r[4]);
            Check.due("pressing: juice", shop.tank(0, 1), r[4]);
            Check.due("pressing: sugar", shop.tank(0, 2), r[5]);
            Check.due("pressing: acid", shop.tank(0, 3), r[6]);
            Check.due("pressing: pomace", shop.count(2), r[7]);
            Check.due("pressing: the lot", shop.lot(0, 1), 20000 - r[3]);
        }
    }

    /** "ILLEGAL_STATE if the lot has less": just as much as there is may be pressed. */
    private static void pressingTakesTheWholeLot() {
        CiderShop shop = Shops.small();
        shop.day();
        Check.due("pressing: 997 after a day", shop.lot(0, 1), 997);
        Check.due("pressing: one too many", shop.press(0, 998, 0), Shops.ILLEGAL);
        Check.due("pressing: reason", shop.count(4), 11);
        Check.due("pressing: all", shop.press(0, 997, 0), 598);
        Check.due("pressing: none left", shop.press(0, 1, 0), Shops.ILLEGAL);
    }

    /** "haze = juice * H / 1000, where H is the haze of pressing, 0 to 100 (at first 40)" */
    private static void hazeOfPressing() {
        int[][] rows = {{40, 24, 0}, {40, 25, 1}, {40, 49, 1}, {40, 50, 2}, {100, 9, 0}, {100, 10, 1}, {1, 999, 0},
            {1, 1000, 1}, {0, 1000, 0}};
        for (int[] r : rows) {
            CiderShop shop = ofJuice(r[1], 0, 0, r[0]);
            dueTank("haze " + r[0] + " of " + r[1], shop, 0, 1000, r[1], 0, 0, r[2], 0, 0, 1000 - r[1]);
        }
        CiderShop shop = Shops.small();
        shop.press(0, 41, 0);
        Check.due("haze at first: none of 24", shop.tank(0, 4), 0);
        shop.press(0, 42, 1);
        Check.due("haze at first: 1 of 25", shop.tank(1, 4), 1);
    }

    /** "The haze is a part of the juice; sugar and acid are told apart from it, and weigh nothing." */
    private static void sugarAndAcidWeighNothing() {
        CiderShop shop = new CiderShop();
        shop.setVariety(0, 500, 200, 100);
        shop.setRates(0, 100, 0, 300);
        shop.buy(0, 200);
        shop.addTank(100);
        Check.due("weights: just the juice needs room", shop.press(0, 200, 0), 100);
        dueTank("weights", shop, 0, 100, 100, 20, 10, 10, 0, 0, 0);
        Check.due("weights: only juice in the account", shop.account(9), 100);
        shop.day();
        dueTank("weights: alcohol", shop, 0, 100, 100, 14, 10, 10, 0, 6, 0);
    }

    /** "juice = (heap + w) / 4 .. sugar = juice / 50, acid = juice / 100 and haze = juice / 10" */
    private static void wetRoundsDown() {
        // water onto a heap of 1; juice, sugar, acid, haze
        int[][] rows = {{0, 0, 0, 0, 0}, {2, 0, 0, 0, 0}, {3, 1, 0, 0, 0}, {6, 1, 0, 0, 0}, {7, 2, 0, 0, 0},
            {38, 9, 0, 0, 0}, {39, 10, 0, 0, 1}, {198, 49, 0, 0, 4}, {199, 50, 1, 0, 5}, {398, 99, 1, 0, 9},
            {399, 100, 2, 1, 10}, {4002, 1000, 20, 10, 100}};
        for (int[] r : rows) {
            CiderShop shop = Shops.small();
            shop.press(0, 1, 0);
            Check.due("wet: juice with " + r[0], shop.wet(r[0], 0), r[1]);
            dueTank("wet with " + r[0], shop, 0, 1000, r[1], r[2], r[3], r[4], 0, 0, 1000 - r[1]);
            Check.due("wet: the heap", shop.count(2), 1 + r[0] - r[1]);
            Check.due("wet: the account", shop.account(8), 1 + r[0] - r[1]);
        }
    }

    /** "the heap becomes heap + w - juice": down to what gives no juice any more, and never 0. */
    private static void heapIsPressedAgainAndAgain() {
        CiderShop shop = Shops.small();
        shop.press(0, 10, 0);
        int[] juices = {1, 0, 0};
        for (int juice : juices) {
            Check.due("heap: juice", shop.wet(0, 1), juice);
        }
        Check.due("heap: 3 are left", shop.count(2), 3);
        Check.due("heap: nothing came of them", shop.tank(1, 1), 1);
        Check.due("heap: they can be sold", shop.sellPomace(), 3);
        Check.due("heap: none is left to be wetted", shop.wet(20000, 0), Shops.ILLEGAL);
        Check.due("heap: reason", shop.count(4), 12);
        Check.due("heap: nor to be sold", shop.sellPomace(), Shops.ILLEGAL);
    }

    // ---- Tanks

    /** "There are at most 6 tanks, numbered from 0. .. An empty tank has none of these." */
    private static void tanksAreSix() {
        CiderShop shop = new CiderShop();
        for (int tank = 0; tank < 6; tank++) {
            Check.due("tanks: not there yet", shop.tank(tank, 0), Shops.INVALID);
            Check.due("tanks: number", shop.addTank(10 + tank), tank);
        }
        Check.due("tanks: a seventh", shop.addTank(1), Shops.FULL);
        for (int tank = 0; tank < 6; tank++) {
            dueTank("tanks: empty", shop, tank, 10 + tank, 0, 0, 0, 0, 0, 0, 10 + tank);
        }
        Check.due("tanks: no seventh", shop.tank(6, 0), Shops.INVALID);
    }

    /** "its contents are its juice (with its haze) and its lees, together at most its room": for each way into it. */
    private static void contentsAreAtMostTheRoom() {
        CiderShop shop = Shops.clear(0, 0, 0, 0);
        shop.addTank(10);
        shop.press(0, 2000, 0);
        Check.due("room: press 11", shop.press(0, 22, 2), Shops.FULL);
        Check.due("room: press 10", shop.press(0, 20, 2), 10);
        Check.due("room: none left", shop.tank(2, 7), 0);
        Check.due("room: press 1 more", shop.press(0, 2, 2), Shops.FULL);
        shop.pour(2);
        // the heap is 1010
        Check.due("room: wet 252", shop.wet(0, 2), Shops.FULL);
        shop.sellPomace();
        shop.press(0, 44, 1);
        Check.due("room: wet 11", shop.wet(22, 2), Shops.FULL);
        Check.due("room: wet 10", shop.wet(21, 2), 10);
        shop.pour(2);
        Check.due("room: move 11", shop.move(0, 11, 2), Shops.FULL);
        Check.due("room: move 10", shop.move(0, 10, 2), 0);
        Check.due("room: move 1 more", shop.move(0, 1, 2), Shops.FULL);
        Check.due("room: rack", shop.rack(0, 2), Shops.FULL);
        shop.move(2, 1, 1);
        Check.due("room: rack 1", shop.rack(0, 2), 1);
        dueTank("room: full", shop, 2, 10, 10, 0, 0, 0, 0, 0, 0);
    }

    /** A tank of 100 with 5 of lees alone, another one full of juice without haze, and a heap of 1. */
    private static CiderShop withLees() {
        CiderShop shop = new CiderShop();
        shop.setRates(0, 100, 500, 0);
        shop.setVariety(0, 500, 0, 0);
        shop.buy(0, 20000);
        shop.addTank(100);
        shop.addTank(5000);
        shop.press(0, 200, 0);
        shop.day();
        shop.pour(0);
        shop.setRates(0, 0, 500, 0);
        shop.press(0, 10000, 1);
        shop.sellPomace();
        shop.press(0, 1, 0);
        return shop;
    }

    /** "its juice (with its haze) and its lees, together at most its room" */
    private static void leesTakeRoom() {
        CiderShop shop = withLees();
        dueTank("lees", shop, 0, 100, 0, 0, 0, 0, 5, 0, 95);
        Check.due("lees: press 96", shop.press(0, 192, 0), Shops.FULL);
        Check.due("lees: press 95", shop.press(0, 190, 0), 95);
        shop.undo();
        Check.due("lees: wet 96", shop.wet(383, 0), Shops.FULL);
        Check.due("lees: wet 95", shop.wet(382, 0), 95);
        shop.undo();
        Check.due("lees: move 96", shop.move(1, 96, 0), Shops.FULL);
        Check.due("lees: move 95", shop.move(1, 95, 0), 0);
        shop.undo();
        Check.due("lees: rack", shop.rack(1, 0), 95);
        Check.due("lees: none left", shop.tank(0, 7), 0);
    }

    /** "(A juice of 0 always has room.)": in a tank that is full of juice, and of juice and lees. */
    private static void nothingAlwaysHasRoom() {
        CiderShop shop = withLees();
        shop.rack(1, 0);
        Check.due("no juice: no room left", shop.tank(0, 7), 0);
        Check.due("no juice: press", shop.press(0, 1, 0), 0);
        Check.due("no juice: the apple is pomace", shop.count(2), 2);
        Check.due("no juice: wet", shop.wet(1, 0), 0);
        Check.due("no juice: the water is in the heap", shop.count(2), 3);
        Check.due("no juice: but 1 has no room", shop.wet(1, 0), Shops.FULL);
        Check.due("no juice: nor by pressing", shop.press(0, 2, 0), Shops.FULL);
        dueTank("no juice: the tank", shop, 0, 100, 95, 0, 0, 0, 5, 0, 0);
        CiderShop least = Shops.small();
        Check.due("no juice: the least tank", least.addTank(1), 2);
        Check.due("no juice: 1 fills it", least.press(0, 2, 2), 1);
        Check.due("no juice: press into it", least.press(0, 1, 2), 0);
    }

    /** "first haze * S / 1000 settles: it becomes lees, and is no longer a part of the juice, S .. 0 to 500 (at first 200)" */
    private static void hazeSettles() {
        // S and haze, of a juice of ten times as much; what settles
        int[][] rows = {{200, 4, 0}, {200, 5, 1}, {200, 9, 1}, {200, 10, 2}, {500, 1, 0}, {500, 2, 1}, {500, 3, 1},
            {500, 100, 50}, {1, 99, 0}, {10, 99, 0}, {10, 100, 1}, {0, 100, 0}};
        for (int[] r : rows) {
            CiderShop shop = ofJuice(10 * r[1], 0, 0, 100);
            shop.setRates(0, 100, r[0], 0);
            shop.day();
            dueTank("settling " + r[0] + " of " + r[1], shop, 0, 1000, 10 * r[1] - r[2], 0, 0, r[1] - r[2], r[2], 0,
                    1000 - 10 * r[1]);
            Check.due("settling: lees", shop.account(10), r[2]);
        }
        CiderShop shop = Shops.small();
        shop.press(0, 209, 0);
        shop.press(0, 167, 1);
        shop.day();
        Check.due("settling at first: 1 of 5", shop.tank(0, 5), 1);
        Check.due("settling at first: none of 4", shop.tank(1, 5), 0);
    }

    /** "sugar * F / 1000 ferments: the sugar .. so much less, .. the alcohol so much more, F .. 0 to 300 (at first 50)" */
    private static void sugarFerments() {
        // F and sugar, of a juice of five times as much; what ferments
        int[][] rows = {{50, 19, 0}, {50, 20, 1}, {50, 39, 1}, {50, 40, 2}, {300, 3, 0}, {300, 4, 1}, {300, 6, 1},
            {300, 7, 2}, {300, 200, 60}, {5, 199, 0}, {5, 200, 1}, {0, 200, 0}};
        for (int[] r : rows) {
            CiderShop shop = ofJuice(5 * r[1], 200, 0, 0);
            shop.setRates(0, 0, 0, r[0]);
            shop.day();
            dueTank("fermentation " + r[0] + " of " + r[1], shop, 0, 1000, 5 * r[1], r[1] - r[2], 0, 0, 0, r[2],
                    1000 - 5 * r[1]);
        }
        CiderShop shop = Shops.small();
        shop.press(0, 334, 0);
        shop.press(0, 332, 1);
        shop.day();
        Check.due("fermentation at first: 1 of 20", shop.tank(0, 6), 1);
        Check.due("fermentation at first: none of 19", shop.tank(1, 6), 0);
    }

    /** A juice of 99 with 19 sugar of which 5 ferment, 9 acid, and 9 haze of which 4 settle: 95, 14, 9, 5, 4 and 5. */
    private static CiderShop mixed() {
        CiderShop shop = ofJuice(99, 200, 100, 100);
        shop.day();
        dueTank("mixed", shop, 0, 1000, 95, 14, 9, 5, 4, 5, 901);
        return shop;
    }

    /** "of its sugar, acid, haze and alcohol, each of them x, x * n / juice goes along" */
    private static void moveTakesAlong() {
        // n; sugar, acid, haze and alcohol that go along
        int[][] rows = {{6, 0, 0, 0, 0}, {7, 1, 0, 0, 0}, {10, 1, 0, 0, 0}, {11, 1, 1, 0, 0}, {18, 2, 1, 0, 0},
            {19, 2, 1, 1, 1}, {94, 13, 8, 4, 4}, {95, 14, 9, 5, 5}};
        for (int[] r : rows) {
            CiderShop shop = mixed();
            Check.due("along: haze with " + r[0], shop.move(0, r[0], 1), r[3]);
            dueTank("along with " + r[0] + ": to", shop, 1, 1000, r[0], r[1], r[2], r[3], 0, r[4], 1000 - r[0]);
            dueTank("along with " + r[0] + ": from", shop, 0, 1000, 95 - r[0], 14 - r[1], 9 - r[2], 5 - r[3], 4,
                    5 - r[4], 901 + r[0]);
        }
    }

    /** All of the juice takes all along, and the last 1 what the ones before it left behind. */
    private static void moveOfAllAndOfOne() {
        CiderShop shop = mixed();
        for (int i = 0; i < 94; i++) {
            shop.move(0, 1, 1);
        }
        Check.due("one by one: the last one", shop.tank(0, 1), 1);
        Check.due("one by one: its sugar", shop.share(0, 0), 1000);
        Check.due("one by one: all of it is haze", shop.move(0, 1, 1), 1);
        dueTank("one by one: from", shop, 0, 1000, 0, 0, 0, 0, 4, 0, 996);
        dueTank("one by one: to", shop, 1, 1000, 95, 14, 9, 5, 0, 5, 905);
        Check.due("one by one: none left", shop.move(0, 1, 1), Shops.ILLEGAL);
        Check.due("one by one: reason", shop.count(4), 7);
    }

    /** "(So the haze that goes along is a part of n.)" */
    private static void movedHazeIsPartOfTheAmount() {
        CiderShop shop = ofJuice(100, 0, 0, 100);
        Check.due("haze along", shop.move(0, 50, 1), 5);
        Check.due("haze along: juice with it", shop.tank(1, 1), 50);
        Check.due("haze along: room with it", shop.tank(1, 7), 950);
        Check.due("haze along: juice without it", shop.tank(0, 1), 50);
        Check.due("haze along: all juice", shop.account(9), 100);
    }

    /** "Lees stay." */
    private static void leesStay() {
        CiderShop shop = mixed();
        shop.setLabel(0, 0, 1000, 0, 1000, 1000);
        shop.move(0, 45, 1);
        Check.due("lees: after move", shop.tank(0, 5), 4);
        Check.due("lees: none moved", shop.tank(1, 5), 0);
        shop.rack(0, 1);
        Check.due("lees: after rack", shop.tank(0, 5), 4);
        Check.due("lees: none racked", shop.tank(1, 5), 0);
        shop.rack(1, 0);
        shop.bottle(0, 0, 1, 45);
        Check.due("lees: after bottle", shop.tank(0, 5), 4);
        shop.pour(0);
        dueTank("lees: after pour", shop, 0, 1000, 0, 0, 0, 0, 4, 0, 996);
        Check.due("lees: all of them", shop.account(10), 4);
    }

    /** "To clean a tank that has no juice means: its lees are thrown away." */
    private static void cleaned() {
        CiderShop shop = mixed();
        Check.due("clean: juice", shop.clean(0), Shops.ILLEGAL);
        Check.due("clean: reason", shop.count(4), 13);
        shop.move(0, 94, 1);
        Check.due("clean: a juice of 1", shop.clean(0), Shops.ILLEGAL);
        shop.rack(0, 1);
        Check.due("clean: none", shop.clean(0), 4);
        dueTank("clean: empty", shop, 0, 1000, 0, 0, 0, 0, 0, 0, 1000);
        Check.due("clean: a second time", shop.clean(0), 0);
        Check.due("clean: thrown away", shop.account(3), 4);
    }

    // ---- Accounts

    /** "The accounts are sums since the beginning" */
    private static void accountsAtFirst() {
        CiderShop shop = new CiderShop();
        for (int what = 0; what <= 10; what++) {
            Check.due("accounts at first", shop.account(what), 0);
        }
        shop.day();
        shop.addTank(5000);
        Check.due("accounts: an empty tank", gone(shop), 0);
    }

    /** "Always the accounts 0 and 1 together are the accounts 2 to 10 together": with all that a shop can hold. */
    private static void accountsAtTheGreatest() {
        CiderShop shop = new CiderShop();
        shop.setRates(20, 100, 500, 300);
        for (int lot = 0; lot < 8; lot++) {
            shop.setVariety(lot % 6, lot % 2 == 0 ? 300 : 800, 200, 100);
            shop.buy(lot % 6, 20000);
        }
        for (int tank = 0; tank < 6; tank++) {
            shop.addTank(5000);
        }
        Check.due("accounts: bought", shop.account(0), 160000);
        for (int round = 0; round < 14; round++) {
            for (int lot = 0; lot < 8; lot++) {
                shop.press(lot, 1 + 617 * round % 6000, (lot + round) % 6);
            }
            shop.rack(round % 6, (round + 1) % 6);
            shop.pour((round + 3) % 6);
            Check.due("accounts: both ways", gone(shop), shop.account(0) + shop.account(1));
            shop.day();
            Check.due("accounts: both ways after a day", gone(shop), shop.account(0) + shop.account(1));
        }
    }
}
