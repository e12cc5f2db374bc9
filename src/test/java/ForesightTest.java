/** Promises 27 and 28: what would be. */
public final class ForesightTest {
    public static void main(String[] args) {
        daysTo();
        daysToAtTheLimit();
        daysToSugarPassesThrough();
        daysToWrong();
        blendFor();
        blendForAcidAndHaze();
        blendForEach();
        blendForRoom();
        blendForRoundsDown();
        blendForWrong();
        daysToWithoutJuice();
        daysToAllowedNow();
        daysToWithTheRatesOfNow();
        blendForAllowedNow();
        blendForUpToTheJuice();
        blendForUpToTheRoom();
        blendForBesideLees();
        foresightChangesNothing();
        Check.finish("ForesightTest");
    }

    private static void daysTo() {
        CiderShop shop = Shops.small();
        shop.press(0, 500, 0);
        // haze 12 of 300: 10 of 298, 8 of 296, 7 of 295, 6 of 294
        int[] hazes = {40, 39, 33, 32, 27, 26, 23, 22, 20};
        int[] days = {0, 1, 1, 2, 2, 3, 3, 4, 4};
        for (int i = 0; i < hazes.length; i++) {
            shop.setLabel(1, 0, 1000, 0, 1000, hazes[i]);
            Check.due("27: haze " + hazes[i], shop.daysTo(0, 1), days[i]);
        }
        Check.due("27: the first label", shop.daysTo(0, 0), 4);
        Check.due("27: the last label", shop.daysTo(0, 3), 4);
        shop.setLabel(1, 0, 1000, 0, 1000, 0);
        Check.due("27: a haze of 4 stays", shop.daysTo(0, 1), Shops.NONE);
        Check.due("27: no juice", shop.daysTo(1, 1), Shops.NONE);
        Check.due("27: nothing changes", shop.tank(0, 4), 12);
        Check.due("27: no day passes", shop.count(3), 0);
        shop.pour(1);
        shop.daysTo(0, 1);
        Check.due("27: the reason stays", shop.count(4), 1);
    }

    private static void daysToAtTheLimit() {
        CiderShop shop = Shops.clear(100, 0, 0, 0);
        shop.setRates(0, 0, 0, 10);
        shop.press(0, 2000, 0);
        shop.setLabel(0, 0, 99, 0, 1000, 0);
        Check.due("27: a day", shop.daysTo(0, 0), 1);
        shop.setRates(0, 0, 0, 25);
        // 2 less each day down to 78 after 11 days, then 1 less each day down to 39, where it stays
        shop.setLabel(0, 0, 39, 0, 1000, 0);
        Check.due("27: 50 days", shop.daysTo(0, 0), 50);
        shop.setLabel(0, 0, 38, 0, 1000, 0);
        Check.due("27: never", shop.daysTo(0, 0), Shops.NONE);

        CiderShop slow = Shops.clear(122, 0, 0, 0);
        slow.press(0, 2000, 0);
        slow.setRates(0, 0, 0, 20);
        // 2 less each day down to 98 after 12 days, then 1 less each day: 50 after 60 days, 49 after 61
        slow.setLabel(0, 0, 50, 0, 1000, 0);
        Check.due("27: 60 days", slow.daysTo(0, 0), 60);
        slow.setLabel(0, 0, 49, 0, 1000, 0);
        Check.due("27: 61 days are too many", slow.daysTo(0, 0), Shops.NONE);
        slow.day();
        Check.due("27: a day later they are 60", slow.daysTo(0, 0), 60);
    }

    private static void daysToSugarPassesThrough() {
        CiderShop shop = Shops.clear(100, 0, 0, 0);
        shop.setRates(0, 0, 0, 300);
        shop.press(0, 2000, 0);
        // 100, 70, 49, 35
        shop.setLabel(0, 50, 69, 0, 1000, 0);
        Check.due("27: it leaps over", shop.daysTo(0, 0), Shops.NONE);
        shop.setLabel(0, 40, 60, 0, 1000, 0);
        Check.due("27: the second day", shop.daysTo(0, 0), 2);
        shop.setLabel(0, 101, 1000, 0, 1000, 0);
        Check.due("27: too low for ever", shop.daysTo(0, 0), Shops.NONE);
    }

    private static void daysToWrong() {
        CiderShop shop = Shops.small();
        Check.due("27: tank -1", shop.daysTo(-1, 0), Shops.INVALID);
        Check.due("27: tank 2", shop.daysTo(2, 0), Shops.INVALID);
        Check.due("27: label -1", shop.daysTo(0, -1), Shops.INVALID);
        Check.due("27: label 4", shop.daysTo(0, 4), Shops.INVALID);
    }

    private static void blendFor() {
        CiderShop shop = Shops.clear(200, 0, 0, 100);
        shop.press(0, 2000, 0);
        shop.press(1, 2000, 1);
        shop.setLabel(0, 50, 60, 0, 1000, 0);
        // 200 of sugar in 1000 against none in 1000: n / 5 of (1000 + n) reaches 5 % at n = 335: 67 of 1335
        Check.due("28: smallest", shop.blendFor(0, 1, 0), 335);
        Check.due("28: the other way", shop.blendFor(1, 0, 0), Shops.NONE);
        shop.setLabel(1, 0, 1000, 100, 100, 0);
        Check.due("28: allowed now", shop.blendFor(0, 1, 1), 0);
        shop.setLabel(1, 200, 200, 0, 1000, 0);
        Check.due("28: never", shop.blendFor(0, 1, 1), Shops.NONE);
        shop.setLabel(1, 100, 100, 50, 50, 0);
        Check.due("28: all of it", shop.blendFor(0, 1, 1), 1000);
        shop.addTank(5000);
        shop.setLabel(1, 0, 1000, 0, 1000, 0);
        Check.due("28: into an empty one", shop.blendFor(0, 2, 1), 1);
        Check.due("28: from an empty one", shop.blendFor(2, 0, 1), 0);
        Check.due("28: from an empty one into an empty one", none(shop), Shops.NONE);
        shop.clean(0);
        String before = Shops.whole(shop);
        shop.blendFor(0, 1, 0);
        Check.due("28: nothing changes", Shops.whole(shop), before);
    }

    private static int none(CiderShop shop) {
        shop.addTank(5000);
        return shop.blendFor(2, 3, 1);
    }

    private static void blendForAcidAndHaze() {
        CiderShop shop = Shops.clear(0, 100, 0, 0);
        shop.press(1, 2000, 1);
        shop.setRates(0, 100, 0, 0);
        shop.press(0, 2000, 0);
        // n / 10 of acid and n / 10 of haze in 1000 + n
        shop.setLabel(3, 0, 1000, 20, 1000, 1000);
        Check.due("28: acid", shop.blendFor(0, 1, 3), 250);
        shop.setLabel(3, 0, 1000, 20, 1000, 20);
        Check.due("28: just the haze that is allowed", shop.blendFor(0, 1, 3), 250);
        shop.setLabel(3, 0, 1000, 20, 1000, 19);
        Check.due("28: too much haze", shop.blendFor(0, 1, 3), Shops.NONE);
        // the other way, 1000 / (1000 + n) of the acid and the haze
        shop.setLabel(3, 0, 1000, 0, 1000, 50);
        Check.due("28: haze made thin", shop.blendFor(1, 0, 3), 961);
        shop.setLabel(3, 0, 1000, 0, 80, 1000);
        Check.due("28: acid made thin", shop.blendFor(1, 0, 3), 235);
    }

    /** Each of sugar, acid and haze goes along for itself. */
    private static void blendForEach() {
        // sugar, acid and haze for 1000 units of juice, in a tank of 1000 that is moved into another one of pure 1000
        int[][] rows = {{200, 0, 0}, {0, 100, 0}, {0, 0, 100}, {200, 100, 0}, {200, 0, 100}, {0, 100, 100}};
        for (int[] r : rows) {
            CiderShop shop = Shops.clear(r[0], r[1], 0, 0);
            shop.press(1, 2000, 1);
            shop.setRates(0, r[2], 0, 0);
            shop.press(0, 2000, 0);
            shop.setLabel(0, 20, 1000, 0, 1000, 1000);
            Check.due("28: sugar of " + r[0], shop.blendFor(0, 1, 0), r[0] == 0 ? Shops.NONE : 115);
            shop.setLabel(0, 0, 1000, 20, 1000, 1000);
            Check.due("28: acid of " + r[1], shop.blendFor(0, 1, 0), r[1] == 0 ? Shops.NONE : 250);
            shop.setLabel(0, 0, 19, 0, 1000, 1000);
            Check.due("28: less sugar than " + r[0], shop.blendFor(1, 0, 0), r[0] == 0 ? 0 : Shops.NONE);
            shop.setLabel(0, 0, 1000, 0, 60, 1000);
            Check.due("28: less acid than " + r[1], shop.blendFor(1, 0, 0), r[1] == 0 ? 0 : 640);
            shop.setLabel(0, 0, 1000, 0, 1000, 60);
            Check.due("28: less haze than " + r[2], shop.blendFor(1, 0, 0), r[2] == 0 ? 0 : 640);
        }
    }

    private static void blendForRoom() {
        CiderShop shop = Shops.clear(200, 0, 0, 0);
        shop.addTank(1335);
        shop.addTank(1334);
        shop.press(0, 4000, 0);
        shop.press(1, 2000, 2);
        shop.press(1, 2000, 3);
        shop.setLabel(0, 50, 60, 0, 1000, 0);
        Check.due("28: just room", shop.blendFor(0, 2, 0), 335);
        Check.due("28: one too little room", shop.blendFor(0, 3, 0), Shops.NONE);
    }

    /** Of a sugar of 1 in a juice of 9, none goes along but with all of the juice. */
    private static void blendForRoundsDown() {
        CiderShop shop = Shops.clear(112, 0, 0, 0);
        shop.press(0, 18, 0);
        Check.due("28: sugar", shop.tank(0, 2), 1);
        shop.setLabel(0, 1, 1000, 0, 1000, 0);
        Check.due("28: rounded down", shop.blendFor(0, 1, 0), 9);
        shop.setRates(0, 100, 0, 0);
        shop.press(0, 20, 0);
        // juice 19, sugar 2, haze 1
        shop.setLabel(0, 1, 1000, 0, 1000, 0);
        Check.due("28: haze stays behind", shop.blendFor(0, 1, 0), 10);
    }

    private static void blendForWrong() {
        CiderShop shop = Shops.small();
        Check.due("28: from -1", shop.blendFor(-1, 0, 0), Shops.INVALID);
        Check.due("28: from 2", shop.blendFor(2, 0, 0), Shops.INVALID);
        Check.due("28: to -1", shop.blendFor(0, -1, 0), Shops.INVALID);
        Check.due("28: to 2", shop.blendFor(0, 2, 0), Shops.INVALID);
        Check.due("28: the same", shop.blendFor(1, 1, 0), Shops.INVALID);
        Check.due("28: label -1", shop.blendFor(0, 1, -1), Shops.INVALID);
        Check.due("28: label 4", shop.blendFor(0, 1, 4), Shops.INVALID);
    }

    /** "NONE if there is none": no day brings juice into a tank. */
    private static void daysToWithoutJuice() {
        CiderShop shop = Shops.small();
        shop.setLabel(0, 0, 1000, 0, 1000, 1000);
        Check.due("27: an empty tank", shop.daysTo(0, 0), Shops.NONE);
        shop.setRates(0, 100, 500, 0);
        shop.press(0, 500, 0);
        shop.day();
        shop.pour(0);
        Check.due("27: lees alone", shop.daysTo(0, 0), Shops.NONE);
        shop.press(0, 2, 0);
        Check.due("27: a juice of 1", shop.daysTo(0, 0), 0);
    }

    /** "Returns 0 if it allows it now": also if it would not any more a day later. */
    private static void daysToAllowedNow() {
        CiderShop shop = Shops.clear(100, 0, 0, 0);
        shop.press(0, 2000, 0);
        shop.setRates(0, 0, 0, 300);
        shop.setLabel(0, 100, 100, 0, 1000, 0);
        Check.due("27: now", shop.daysTo(0, 0), 0);
        shop.day();
        Check.due("27: now no more", shop.daysTo(0, 0), Shops.NONE);
        shop.setLabel(0, 0, 49, 0, 1000, 0);
        Check.due("27: the next day", shop.daysTo(0, 0), 1);
        shop.day();
        Check.due("27: then now", shop.daysTo(0, 0), 0);
    }

    /** "if nothing else is done": with the rates as they are, each day after the other. */
    private static void daysToWithTheRatesOfNow() {
        CiderShop shop = Shops.clear(100, 50, 0, 0);
        shop.setRates(0, 100, 0, 0);
        shop.press(0, 2000, 0);
        shop.setLabel(0, 0, 1000, 0, 1000, 30);
        Check.due("27: nothing settles", shop.daysTo(0, 0), Shops.NONE);
        shop.setRates(0, 0, 500, 0);
        // haze 100 of 1000: 50 of 950 are 52, 25 of 925 are 27
        Check.due("27: half of it settles", shop.daysTo(0, 0), 2);
        // the juice becomes less, so the acid of 50 becomes more: 52 of 950, 54 of 925
        shop.setLabel(1, 0, 1000, 54, 1000, 1000);
        Check.due("27: acid", shop.daysTo(0, 1), 2);
        shop.setLabel(1, 105, 107, 0, 1000, 1000);
        Check.due("27: sugar", shop.daysTo(0, 1), 1);
        shop.setLabel(1, 0, 1000, 54, 1000, 27);
        Check.due("27: both at once", shop.daysTo(0, 1), 2);
        shop.setLabel(1, 0, 1000, 0, 53, 27);
        Check.due("27: never both", shop.daysTo(0, 1), Shops.NONE);
    }

    /** "0 if the label allows it now": even if nothing can be moved. */
    private static void blendForAllowedNow() {
        CiderShop shop = Shops.clear(100, 0, 0, 0);
        shop.addTank(10);
        shop.press(1, 20, 2);
        Check.due("28: nothing to move", shop.blendFor(0, 2, 0), 0);
        shop.press(0, 2000, 0);
        Check.due("28: no room", shop.tank(2, 7), 0);
        Check.due("28: nor room for it", shop.blendFor(0, 2, 0), 0);
        shop.setLabel(0, 1, 1000, 0, 1000, 0);
        Check.due("28: no room for what it needs", shop.blendFor(0, 2, 0), Shops.NONE);
        Check.due("28: nothing to move from", shop.blendFor(1, 2, 0), Shops.NONE);
        Check.due("28: nor from one to an empty one", shop.blendFor(1, 0, 0), 0);
    }

    /** "up to the juice of the one": all of it, and no more. */
    private static void blendForUpToTheJuice() {
        CiderShop shop = Shops.clear(200, 0, 0, 0);
        shop.press(1, 2000, 1);
        shop.setLabel(0, 50, 1000, 0, 1000, 0);
        int[] masses = {668, 670, 672};
        // 334 of juice have 66 of sugar: 49 of 1334; 335 have 67: 50 of 1335; of 336 with 67, 335 take but 66 along
        int[] dues = {Shops.NONE, 335, 336};
        for (int i = 0; i < masses.length; i++) {
            shop.press(0, masses[i], 0);
            Check.due("28: of " + shop.tank(0, 1), shop.blendFor(0, 1, 0), dues[i]);
            shop.pour(0);
        }
        CiderShop one = Shops.clear(0, 0, 0, 0);
        one.press(0, 2, 0);
        Check.due("28: a juice of 1", one.blendFor(0, 1, 0), 1);
    }

    /** "and the room that is left in the other one": all of it, and no more. */
    private static void blendForUpToTheRoom() {
        CiderShop shop = Shops.clear(1, 0, 0, 0);
        shop.press(0, 10000, 0);
        // of the 5 of sugar in 5000, 1 goes along with 1000; beside a juice of 1 without sugar, it is less than 1 for 1000
        shop.setLabel(0, 1, 1000, 0, 1000, 0);
        Check.due("28: of a full tank", shop.blendFor(0, 1, 0), 1000);
        shop.press(1, 2, 1);
        Check.due("28: beside a juice of 1", shop.blendFor(0, 1, 0), Shops.NONE);
        shop.undo();
        shop.addTank(999);
        Check.due("28: room for 999", shop.blendFor(0, 2, 0), Shops.NONE);
        shop.addTank(1000);
        Check.due("28: room for 1000", shop.blendFor(0, 3, 0), 1000);
    }

    /** The lees of the other tank take of its room. */
    private static void blendForBesideLees() {
        CiderShop shop = Shops.clear(11, 0, 0, 0);
        shop.addTank(100);
        shop.setRates(0, 100, 500, 0);
        shop.press(1, 200, 2);
        shop.day();
        shop.pour(2);
        shop.setRates(0, 0, 0, 0);
        shop.setLabel(0, 1, 1000, 0, 1000, 1000);
        Check.due("28: lees", shop.tank(2, 7), 95);
        shop.press(0, 380, 0);
        Check.due("28: of 190 with 2 sugar, 95", shop.blendFor(0, 2, 0), 95);
        shop.pour(0);
        shop.press(0, 384, 0);
        Check.due("28: of 192 with 2 sugar, 96", shop.blendFor(0, 2, 0), Shops.NONE);
        shop.clean(2);
        Check.due("28: without the lees", shop.blendFor(0, 2, 0), 96);
    }

    /** "(nothing changes, the reason neither)" */
    private static void foresightChangesNothing() {
        int[] labels = {0, 1, 3, -1, 4};
        for (int label : labels) {
            for (int tank = -1; tank <= 2; tank++) {
                CiderShop shop = withReasonAndText();
                shop.daysTo(tank, label);
                Check.due("27: nothing changes", Shops.whole(shop), Shops.whole(withReasonAndText()));
                shop.blendFor(tank, 0, label);
                shop.blendFor(1, tank, label);
                Check.due("28: nothing changes", Shops.whole(shop), Shops.whole(withReasonAndText()));
                Check.due("27: the reason neither", shop.count(4), 13);
                Check.due("27: nor the text", shop.runScript(), 1);
            }
        }
    }

    private static CiderShop withReasonAndText() {
        CiderShop shop = Shops.busy();
        shop.clean(1);
        Shops.type(shop, "day;");
        return shop;
    }
}
