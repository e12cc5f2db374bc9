/** Promises 19 to 26: looking. */
public final class LookingTest {
    public static void main(String[] args) {
        count();
        lot();
        variety();
        tank();
        share();
        why();
        account();
        bottles();
        changesNothing();
        Check.finish("LookingTest");
    }

    private static CiderShop busy() {
        CiderShop shop = Shops.small();
        shop.setRates(4, 41, 201, 51);
        shop.setVariety(3, 700, 90, 80);
        shop.buy(3, 2000);
        shop.press(1, 500, 0);
        shop.press(0, 100, 1);
        shop.day();
        shop.day();
        return shop;
    }

    private static void count() {
        CiderShop shop = busy();
        shop.clean(0);
        Shops.type(shop, "day");
        int[] counts = {2, 2, 190, 2, 13, 3, 6, 4, 41, 201, 51};
        for (int what = 0; what < counts.length; what++) {
            Check.due("19: count(" + what + ")", shop.count(what), counts[what]);
        }
        Check.due("19: -1", shop.count(-1), Shops.INVALID);
        Check.due("19: 11", shop.count(11), Shops.INVALID);
    }

    private static void lot() {
        CiderShop shop = busy();
        Check.due("20: variety 0", shop.lot(0, 0), 0);
        Check.due("20: mass 0", shop.lot(0, 1), 894);
        Check.due("20: variety 1", shop.lot(1, 0), 3);
        Check.due("20: mass 1", shop.lot(1, 1), 1489);
        Check.due("20: lot -1", shop.lot(-1, 0), Shops.INVALID);
        Check.due("20: lot 2", shop.lot(2, 0), Shops.INVALID);
        Check.due("20: what -1", shop.lot(0, -1), Shops.INVALID);
        Check.due("20: what 2", shop.lot(0, 2), Shops.INVALID);
    }

    private static void variety() {
        CiderShop shop = busy();
        Check.due("21: yield", shop.variety(3, 0), 700);
        Check.due("21: sugar", shop.variety(3, 1), 90);
        Check.due("21: acid", shop.variety(3, 2), 80);
        Check.due("21: another", shop.variety(5, 2), 50);
        Check.due("21: variety -1", shop.variety(-1, 0), Shops.INVALID);
        Check.due("21: variety 6", shop.variety(6, 0), Shops.INVALID);
        Check.due("21: what -1", shop.variety(0, -1), Shops.INVALID);
        Check.due("21: what 3", shop.variety(0, 3), Shops.INVALID);
    }

    private static void tank() {
        CiderShop shop = busy();
        // 350 of juice, 31 sugar, 28 acid, 14 haze; 2 settle each day, 1 ferments each day
        int[] tank = {1000, 346, 29, 28, 10, 4, 2, 650};
        for (int what = 0; what < tank.length; what++) {
            Check.due("22: tank(0, " + what + ")", shop.tank(0, what), tank[what]);
        }
        Check.due("22: tank -1", shop.tank(-1, 0), Shops.INVALID);
        Check.due("22: tank 2", shop.tank(2, 0), Shops.INVALID);
        Check.due("22: what -1", shop.tank(0, -1), Shops.INVALID);
        Check.due("22: what 8", shop.tank(0, 8), Shops.INVALID);
    }

    private static void share() {
        CiderShop shop = busy();
        Check.due("23: sugar", shop.share(0, 0), 83);
        Check.due("23: acid", shop.share(0, 1), 80);
        Check.due("23: haze", shop.share(0, 2), 28);
        Check.due("23: alcohol", shop.share(0, 3), 5);
        Check.due("23: tank -1", shop.share(-1, 0), Shops.INVALID);
        Check.due("23: tank 2", shop.share(2, 0), Shops.INVALID);
        Check.due("23: what -1", shop.share(0, -1), Shops.INVALID);
        Check.due("23: what 4", shop.share(0, 4), Shops.INVALID);
        shop.pour(0);
        for (int what = 0; what < 4; what++) {
            Check.due("23: no juice", shop.share(0, what), Shops.NONE);
        }
        Check.due("23: invalid goes ahead of none", shop.share(0, 4), Shops.INVALID);
    }

    private static void why() {
        CiderShop shop = busy();
        int[][] rows = {{83, 83, 80, 80, 28, 0}, {84, 1000, 81, 1000, 27, 2}, {0, 82, 81, 1000, 27, 3},
            {83, 83, 81, 1000, 27, 4}, {83, 83, 0, 79, 27, 5}, {83, 83, 80, 80, 27, 6}};
        for (int[] r : rows) {
            shop.setLabel(3, r[0], r[1], r[2], r[3], r[4]);
            Check.due("24: why", shop.why(0, 3), r[5]);
        }
        Check.due("24: the reason stays", shop.count(4), 0);
        Check.due("24: label 0", shop.why(0, 0), 6);
        Check.due("24: tank -1", shop.why(-1, 0), Shops.INVALID);
        Check.due("24: tank 2", shop.why(2, 0), Shops.INVALID);
        Check.due("24: label -1", shop.why(0, -1), Shops.INVALID);
        Check.due("24: label 4", shop.why(0, 4), Shops.INVALID);
        shop.pour(0);
        Check.due("24: no juice", shop.why(0, 3), 1);
    }

    private static void account() {
        CiderShop shop = busy();
        shop.wet(110, 1);
        shop.setLabel(0, 0, 1000, 0, 1000, 1000);
        shop.bottle(0, 0, 2, 3);
        shop.pour(0);
        shop.clean(0);
        shop.sellPomace();
        shop.press(0, 94, 0);
        shop.day();
        shop.day();
        // tank 1 has 60 + 75 of juice, of which 1 settles each day; tank 0 has 56, whose haze of 2 stays
        int[] sums = {3000, 110, 33, 4, 225, 6, 340, 2273, 38, 189, 2};
        for (int what = 0; what < sums.length; what++) {
            Check.due("25: account(" + what + ")", shop.account(what), sums[what]);
        }
        int gone = 0;
        for (int what = 2; what <= 10; what++) {
            gone += shop.account(what);
        }
        Check.due("25: both ways", gone, 3110);
        Check.due("25: lees of both tanks", busy().account(10), 4);
        Check.due("25: -1", shop.account(-1), Shops.INVALID);
        Check.due("25: 11", shop.account(11), Shops.INVALID);
    }

    private static void bottles() {
        CiderShop shop = Shops.clear(100, 50, 0, 0);
        shop.press(0, 9000, 0);
        for (int size = 1; size <= 10; size++) {
            shop.bottle(0, 1, size, size + 20);
        }
        shop.bottle(0, 1, 4, 1);
        shop.bottle(0, 0, 4, 2);
        for (int size = 1; size <= 10; size++) {
            Check.due("26: size " + size, shop.bottles(1, size), size + 20 + (size == 4 ? 1 : 0));
        }
        Check.due("26: all sizes", shop.bottles(1, 0), 256);
        Check.due("26: another label", shop.bottles(0, 4), 2);
        Check.due("26: none", shop.bottles(2, 0), 0);
        Check.due("26: label -1", shop.bottles(-1, 0), Shops.INVALID);
        Check.due("26: label 4", shop.bottles(4, 0), Shops.INVALID);
        Check.due("26: size -1", shop.bottles(0, -1), Shops.INVALID);
        Check.due("26: size 11", shop.bottles(0, 11), Shops.INVALID);
    }

    private static void changesNothing() {
        CiderShop shop = busy();
        shop.clean(0);
        String before = Shops.whole(shop);
        shop.lot(0, 0);
        shop.share(0, 0);
        shop.why(0, 0);
        shop.daysTo(0, 0);
        shop.blendFor(0, 1, 0);
        Check.due("looking changes nothing", Shops.whole(shop), before);
    }
}
