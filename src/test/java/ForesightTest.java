/** Promises 27 and 28: what would be. */
public final class ForesightTest {
    public static void main(String[] args) {
        daysTo();
        daysToAtTheLimit();
        daysToSugarPassesThrough();
        daysToWrong();
        blendFor();
        blendForAcidAndHaze();
        blendForRoom();
        blendForRoundsDown();
        blendForWrong();
        Check.finish("ForesightTest");
    }

    private static void daysTo() {
        CiderShop shop = Shops.small();
        shop.press(0, 500, 0);
        // haze 12 of 300: 10 of 298, 8 of 296, 7 of 295, 6 of 294
        int[] hazes = {40, 39, 33, 32, 27, 26, 23, 22, 20};
        int[] days = {0, 1, 1, 2, 2, 3, 3, 4, 4};
        for (int i = 0; i < hazes.length; i++) {
            shop.setLabel(1, 0, 1000, 0, 1000, hazes[i]);
            Check.due("27: haze " + hazes[i], shop.daysTo(0, 1), days[i]);
        }
        Check.due("27: the first label", shop.daysTo(0, 0), 4);
        Check.due("27: the last label", shop.daysTo(0, 3), 4);
        shop.setLabel(1, 0, 1000, 0, 1000, 0);
        Check.due("27: a haze of 4 stays", shop.daysTo(0, 1), Shops.NONE);
        Check.due("27: no juice", shop.daysTo(1, 1), Shops.NONE);
        Check.due("27: nothing changes", shop.tank(0, 4), 12);
        Check.due("27: no day passes", shop.count(3), 0);
        shop.pour(1);
        shop.daysTo(0, 1);
        Check.due("27: the reason stays", shop.count(4), 1);
    }

    private static void daysToAtTheLimit() {
        CiderShop shop = Shops.clear(100, 0, 0, 0);
        shop.setRates(0, 0, 0, 10);
        shop.press(0, 2000, 0);
        shop.setLabel(0, 0, 99, 0, 1000, 0);
        Check.due("27: a day", shop.daysTo(0, 0), 1);
        shop.setRates(0, 0, 0, 25);
        // 2 less each day down to 78 after 11 days, then 1 less each day down to 39, where it stays
        shop.setLabel(0, 0, 39, 0, 1000, 0);
        Check.due("27: 50 days", shop.daysTo(0, 0), 50);
        shop.setLabel(0, 0, 38, 0, 1000, 0);
        Check.due("27: never", shop.daysTo(0, 0), Shops.NONE);

        CiderShop slow = Shops.clear(122, 0, 0, 0);
        slow.press(0, 2000, 0);
        slow.setRates(0, 0, 0, 20);
        // 2 less each day down to 98 after 12 days, then 1 less each day: 50 after 60 days, 49 after 61
        slow.setLabel(0, 0, 50, 0, 1000, 0);
        Check.due("27: 60 days", slow.daysTo(0, 0), 60);
        slow.setLabel(0, 0, 49, 0, 1000, 0);
        Check.due("27: 61 days are too many", slow.daysTo(0, 0), Shops.NONE);
        slow.day();
        Check.due("27: a day later they are 60", slow.daysTo(0, 0), 60);
    }

    private static void daysToSugarPassesThrough() {
        CiderShop shop = Shops.clear(100, 0, 0, 0);
        shop.setRates(0, 0, 0, 300);
        shop.press(0, 2000, 0);
        // 100, 70, 49, 35
        shop.setLabel(0, 50, 69, 0, 1000, 0);
        Check.due("27: it leaps over", shop.daysTo(0, 0), Shops.NONE);
        shop.setLabel(0, 40, 60, 0, 1000, 0);
        Check.due("27: the second day", shop.daysTo(0, 0), 2);
        shop.setLabel(0, 101, 1000, 0, 1000, 0);
        Check.due("27: too low for ever", shop.daysTo(0, 0), Shops.NONE);
    }

    private static void daysToWrong() {
        CiderShop shop = Shops.small();
        Check.due("27: tank -1", shop.daysTo(-1, 0), Shops.INVALID);
        Check.due("27: tank 2", shop.daysTo(2, 0), Shops.INVALID);
        Check.due("27: label -1", shop.daysTo(0, -1), Shops.INVALID);
        Check.due("27: label 4", shop.daysTo(0, 4), Shops.INVALID);
    }

    private static void blendFor() {
        CiderShop shop = Shops.clear(200, 0, 0, 100);
        shop.press(0, 2000, 0);
        shop.press(1, 2000, 1);
        shop.setLabel(0, 50, 60, 0, 1000, 0);
        // 200 of sugar in 1000 against none in 1000: n / 5 of (1000 + n) reaches 5 % at n = 335: 67 of 1335
        Check.due("28: smallest", shop.blendFor(0, 1, 0), 335);
        Check.due("28: the other way", shop.blendFor(1, 0, 0), Shops.NONE);
        shop.setLabel(1, 0, 1000, 100, 100, 0);
        Check.due("28: allowed now", shop.blendFor(0, 1, 1), 0);
        shop.setLabel(1, 200, 200, 0, 1000, 0);
        Check.due("28: never", shop.blendFor(0, 1, 1), Shops.NONE);
        shop.setLabel(1, 100, 100, 50, 50, 0);
        Check.due("28: all of it", shop.blendFor(0, 1, 1), 1000);
        shop.addTank(5000);
        shop.setLabel(1, 0, 1000, 0, 1000, 0);
        Check.due("28: into an empty one", shop.blendFor(0, 2, 1), 1);
        Check.due("28: from an empty one", shop.blendFor(2, 0, 1), 0);
        Check.due("28: from an empty one into an empty one", none(shop), Shops.NONE);
        shop.clean(0);
        String before = Shops.whole(shop);
        shop.blendFor(0, 1, 0);
        Check.due("28: nothing changes", Shops.whole(shop), before);
    }

    private static int none(CiderShop shop) {
        shop.addTank(5000);
        return shop.blendFor(2, 3, 1);
    }

    private static void blendForAcidAndHaze() {
        CiderShop shop = Shops.clear(0, 100, 0, 0);
        shop.press(1, 2000, 1);
        shop.setRates(0, 100, 0, 0);
        shop.press(0, 2000, 0);
        // n / 10 of acid and n / 10 of haze in 1000 + n
        shop.setLabel(3, 0, 1000, 20, 1000, 1000);
        Check.due("28: acid", shop.blendFor(0, 1, 3), 250);
        shop.setLabel(3, 0, 1000, 20, 1000, 20);
        Check.due("28: just the haze that is allowed", shop.blendFor(0, 1, 3), 250);
        shop.setLabel(3, 0, 1000, 20, 1000, 19);
        Check.due("28: too much haze", shop.blendFor(0, 1, 3), Shops.NONE);
        // the other way, 1000 / (1000 + n) of the acid and the haze
        shop.setLabel(3, 0, 1000, 0, 1000, 50);
        Check.due("28: haze made thin", shop.blendFor(1, 0, 3), 961);
        shop.setLabel(3, 0, 1000, 0, 80, 1000);
        Check.due("28: acid made thin", shop.blendFor(1, 0, 3), 235);
    }

    private static void blendForRoom() {
        CiderShop shop = Shops.clear(200, 0, 0, 0);
        shop.addTank(1335);
        shop.addTank(1334);
        shop.press(0, 4000, 0);
        shop.press(1, 2000, 2);
        shop.press(1, 2000, 3);
        shop.setLabel(0, 50, 60, 0, 1000, 0);
        Check.due("28: just room", shop.blendFor(0, 2, 0), 335);
        Check.due("28: one too little room", shop.blendFor(0, 3, 0), Shops.NONE);
    }

    /** Of a sugar of 1 in a juice of 9, none goes along but with all of the juice. */
    private static void blendForRoundsDown() {
        CiderShop shop = Shops.clear(112, 0, 0, 0);
        shop.press(0, 18, 0);
        Check.due("28: sugar", shop.tank(0, 2), 1);
        shop.setLabel(0, 1, 1000, 0, 1000, 0);
        Check.due("28: rounded down", shop.blendFor(0, 1, 0), 9);
        shop.setRates(0, 100, 0, 0);
        shop.press(0, 20, 0);
        // juice 19, sugar 2, haze 1
        shop.setLabel(0, 1, 1000, 0, 1000, 0);
        Check.due("28: haze stays behind", shop.blendFor(0, 1, 0), 10);
    }

    private static void blendForWrong() {
        CiderShop shop = Shops.small();
        Check.due("28: from -1", shop.blendFor(-1, 0, 0), Shops.INVALID);
        Check.due("28: from 2", shop.blendFor(2, 0, 0), Shops.INVALID);
        Check.due("28: to -1", shop.blendFor(0, -1, 0), Shops.INVALID);
        Check.due("28: to 2", shop.blendFor(0, 2, 0), Shops.INVALID);
        Check.due("28: the same", shop.blendFor(1, 1, 0), Shops.INVALID);
        Check.due("28: label -1", shop.blendFor(0, 1, -1), Shops.INVALID);
        Check.due("28: label 4", shop.blendFor(0, 1, 4), Shops.INVALID);
    }
}
