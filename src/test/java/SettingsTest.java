/** Promises 1 to 4: a new object and the settings. */
public final class SettingsTest {
    public static void main(String[] args) {
        newObject();
        constants();
        setVariety();
        setVarietyEdges();
        setRates();
        setRatesActs();
        setLabel();
        setLabelBinds();
        Check.finish("SettingsTest");
    }

    private static void newObject() {
        CiderShop shop = new CiderShop();
        int[] counts = {0, 0, 0, 0, 0, 0, 0, 3, 40, 200, 50};
        for (int what = 0; what < counts.length; what++) {
            Check.due("1: count(" + what + ")", shop.count(what), counts[what]);
        }
        for (int variety = 0; variety < 6; variety++) {
            Check.due("1: yield", shop.variety(variety, 0), 600);
            Check.due("1: sugar", shop.variety(variety, 1), 100);
            Check.due("1: acid", shop.variety(variety, 2), 50);
        }
        for (int what = 0; what <= 10; what++) {
            Check.due("1: account(" + what + ")", shop.account(what), 0);
        }
        for (int label = 0; label < 4; label++) {
            Check.due("1: setLabel as at first", shop.setLabel(label, 0, 1000, 0, 1000, 20), 0);
            for (int size = 0; size <= 10; size++) {
                Check.due("1: bottles", shop.bottles(label, size), 0);
            }
        }
        Check.due("1: lot 0", shop.lot(0, 0), Shops.INVALID);
        Check.due("1: tank 0", shop.tank(0, 0), Shops.INVALID);
        CiderShop other = new CiderShop();
        other.buy(0, 5);
        Check.due("1: shops are apart", new CiderShop().count(0), 0);
    }

    private static void constants() {
        Check.due("INVALID_ARGUMENT", CiderShop.INVALID_ARGUMENT, -1);
        Check.due("ILLEGAL_STATE", CiderShop.ILLEGAL_STATE, -2);
        Check.due("CAPACITY_EXCEEDED", CiderShop.CAPACITY_EXCEEDED, -3);
        Check.due("NONE", CiderShop.NONE, -9);
    }

    private static void setVariety() {
        CiderShop shop = new CiderShop();
        Check.due("2: first", shop.setVariety(5, 300, 0, 100), 600);
        Check.due("2: again", shop.setVariety(5, 800, 200, 0), 300);
        Check.due("2: the same is an edit", shop.setVariety(5, 800, 200, 0), 800);
        Check.due("2: saved", shop.count(6), 3);
        Check.due("2: yield", shop.variety(5, 0), 800);
        Check.due("2: sugar", shop.variety(5, 1), 200);
        Check.due("2: acid", shop.variety(5, 2), 0);
        Check.due("2: the others stay", shop.variety(4, 0), 600);
    }

    private static void setVarietyEdges() {
        CiderShop shop = new CiderShop();
        int[][] wrong = {{-1, 600, 100, 50}, {6, 600, 100, 50}, {0, 299, 100, 50}, {0, 801, 100, 50},
            {0, 600, -1, 50}, {0, 600, 201, 50}, {0, 600, 100, -1}, {0, 600, 100, 101}};
        for (int[] w : wrong) {
            Check.due("2: out of range", shop.setVariety(w[0], w[1], w[2], w[3]), Shops.INVALID);
        }
        Check.due("2: no edit", shop.count(6), 0);
        Check.due("2: unchanged", shop.variety(0, 0), 600);
    }

    private static void setRates() {
        CiderShop shop = new CiderShop();
        Check.due("3: as at first", shop.setRates(3, 40, 200, 50), 0);
        Check.due("3: unchanged is an edit", shop.count(6), 1);
        Check.due("3: w", shop.setRates(20, 40, 200, 50), 1);
        Check.due("3: h", shop.setRates(20, 100, 200, 50), 1);
        Check.due("3: s", shop.setRates(20, 100, 500, 50), 1);
        Check.due("3: f", shop.setRates(20, 100, 500, 300), 1);
        Check.due("3: again", shop.setRates(20, 100, 500, 300), 0);
        Check.due("3: W", shop.count(7), 20);
        Check.due("3: H", shop.count(8), 100);
        Check.due("3: S", shop.count(9), 500);
        Check.due("3: F", shop.count(10), 300);
        Check.due("3: least", shop.setRates(0, 0, 0, 0), 1);
        int[][] wrong = {{-1, 0, 0, 0}, {21, 0, 0, 0}, {0, -1, 0, 0}, {0, 101, 0, 0},
            {0, 0, -1, 0}, {0, 0, 501, 0}, {0, 0, 0, -1}, {0, 0, 0, 301}};
        for (int[] w : wrong) {
            Check.due("3: out of range", shop.setRates(w[0], w[1], w[2], w[3]), Shops.INVALID);
        }
        Check.due("3: unchanged", shop.count(7) + shop.count(8) + shop.count(9) + shop.count(10), 0);
    }

    private static void setRatesActs() {
        CiderShop shop = Shops.small();
        shop.setRates(20, 100, 500, 300);
        shop.press(0, 500, 0);
        Check.due("3: H gives haze", shop.tank(0, 4), 30);
        shop.day();
        Check.due("3: W dries", shop.lot(0, 1), 490);
        Check.due("3: S settles", shop.tank(0, 5), 15);
        Check.due("3: F ferments", shop.tank(0, 6), 9);
    }

    private static void setLabel() {
        CiderShop shop = new CiderShop();
        Check.due("4: leastSugar", shop.setLabel(0, 1, 1000, 0, 1000, 20), 1);
        Check.due("4: mostSugar", shop.setLabel(0, 1, 1, 0, 1000, 20), 1);
        Check.due("4: leastAcid", shop.setLabel(0, 1, 1, 7, 1000, 20), 1);
        Check.due("4: mostAcid", shop.setLabel(0, 1, 1, 7, 7, 20), 1);
        Check.due("4: mostHaze", shop.setLabel(0, 1, 1, 7, 7, 0), 1);
        Check.due("4: again", shop.setLabel(0, 1, 1, 7, 7, 0), 0);
        Check.due("4: ends", shop.setLabel(3, 1000, 1000, 1000, 1000, 1000), 1);
        Check.due("4: saved", shop.count(6), 6);
        int[][] wrong = {{-1, 0, 1000, 0, 1000, 20}, {4, 0, 1000, 0, 1000, 20}, {0, -1, 1000, 0, 1000, 20},
            {0, 1001, 1001, 0, 1000, 20}, {0, 500, 499, 0, 1000, 20}, {0, 0, 1001, 0, 1000, 20},
            {0, 0, 1000, -1, 1000, 20}, {0, 0, 1000, 1001, 1001, 20}, {0, 0, 1000, 500, 499, 20},
            {0, 0, 1000, 0, 1001, 20}, {0, 0, 1000, 0, 1000, -1}, {0, 0, 1000, 0, 1000, 1001}};
        for (int[] w : wrong) {
            Check.due("4: out of range", shop.setLabel(w[0], w[1], w[2], w[3], w[4], w[5]), Shops.INVALID);
        }
        Check.due("4: unchanged", shop.setLabel(0, 1, 1, 7, 7, 0), 0);
    }

    private static void setLabelBinds() {
        CiderShop shop = Shops.clear(100, 50, 0, 0);
        shop.press(0, 2000, 0);
        int[][] rows = {{100, 100, 50, 50, 0, 0}, {101, 200, 0, 1000, 0, 2}, {0, 99, 0, 1000, 0, 3},
            {0, 1000, 51, 1000, 0, 4}, {0, 1000, 0, 49, 0, 5}};
        for (int[] r : rows) {
            shop.setLabel(2, r[0], r[1], r[2], r[3], r[4]);
            Check.due("4: why", shop.why(0, 2), r[5]);
        }
        Check.due("4: other labels stay", shop.why(0, 1), 0);
    }
}
