/** Promise 29: undo. */
public final class UndoTest {
    public static void main(String[] args) {
        nothingSaved();
        eachEdit();
        sixStates();
        refusedCallsSaveNothing();
        textAndReasonStay();
        againAfterUndo();
        Check.finish("UndoTest");
    }

    private static void nothingSaved() {
        CiderShop shop = new CiderShop();
        shop.sellPomace();
        Check.due("29: none", shop.undo(), Shops.ILLEGAL);
        Check.due("29: the reason stays", shop.count(4), 12);
        shop.day();
        Check.due("29: none left", shop.undo(), 0);
        Check.due("29: none again", shop.undo(), Shops.ILLEGAL);
    }

    private static CiderShop busy() {
        CiderShop shop = Shops.small();
        shop.setLabel(1, 0, 1000, 0, 1000, 1000);
        shop.press(0, 500, 0);
        shop.day();
        shop.rack(0, 1);
        return shop;
    }

    private static int edit(CiderShop shop, int kind) {
        switch (kind) {
            case 0:
                return shop.setVariety(5, 400, 30, 20);
            case 1:
                return shop.setRates(1, 2, 3, 4);
            case 2:
                return shop.setLabel(2, 1, 2, 3, 4, 5);
            case 3:
                return shop.buy(4, 700);
            case 4:
                return shop.addTank(70);
            case 5:
                return shop.press(0, 100, 0);
            case 6:
                return shop.wet(30, 0);
            case 7:
                return shop.sellPomace();
            case 8:
                return shop.move(1, 100, 0);
            case 9:
                return shop.rack(1, 0);
            case 10:
                return shop.clean(0);
            case 11:
                return shop.pour(1);
            case 12:
                return shop.bottle(1, 1, 2, 20);
            case 13:
                return shop.day();
            default:
                return Shops.run(shop, "press 0 10 1;day;");
        }
    }

    private static void eachEdit() {
        for (int kind = 0; kind <= 14; kind++) {
            CiderShop shop = busy();
            String before = Shops.state(shop);
            Check.due("29: edit " + kind, edit(shop, kind) >= 0 ? 1 : 0, 1);
            Check.due("29: it changes something " + kind, Shops.state(shop).equals(before) && kind != 2 ? 1 : 0, 0);
            Check.due("29: saved after " + kind, shop.count(6), 6);
            Check.due("29: undo of " + kind, shop.undo(), 5);
            Check.due("29: restored", Shops.state(shop), before);
        }
        CiderShop shop = busy();
        shop.setLabel(2, 1, 2, 3, 4, 5);
        shop.undo();
        Check.due("29: the label is restored", shop.setLabel(2, 0, 1000, 0, 1000, 20), 0);
    }

    private static void sixStates() {
        CiderShop shop = new CiderShop();
        String[] states = new String[30];
        for (int i = 0; i < 30; i++) {
            states[i] = Shops.state(shop);
            Check.due("29: saved", shop.count(6), Math.min(i, 6));
            if (i % 3 == 0) {
                shop.buy(i % 6, i + 1);
            } else {
                shop.day();
            }
        }
        // the lots were full from the ninth purchase on: 28 edits
        int edits = 28;
        Check.due("29: saved at most", shop.count(6), 6);
        Check.due("29: days", shop.count(3), edits - 8);
        for (int left = 5; left >= 0; left--) {
            Check.due("29: undo", shop.undo(), left);
        }
        Check.due("29: none left", shop.undo(), Shops.ILLEGAL);
        Check.due("29: six back", Shops.state(shop), states[22]);
    }

    private static void refusedCallsSaveNothing() {
        CiderShop shop = Shops.small();
        for (int i = 0; i < 6; i++) {
            shop.day();
        }
        shop.sellPomace();
        shop.wet(1, 0);
        shop.press(0, 20000, 0);
        shop.buy(6, 6);
        shop.setRates(-1, 0, 0, 0);
        for (int left = 5; left >= 0; left--) {
            Check.due("29: undo", shop.undo(), left);
            Check.due("29: days", shop.count(3), left);
        }
    }

    private static void textAndReasonStay() {
        CiderShop shop = Shops.small();
        Shops.type(shop, "day;");
        shop.day();
        Shops.type(shop, "day;");
        shop.pour(0);
        Check.due("29: undo", shop.undo(), 3);
        Check.due("29: the text stays", shop.count(5), 8);
        Check.due("29: the reason stays", shop.count(4), 1);
        Check.due("29: the text can be run", shop.runScript(), 2);
    }

    private static void againAfterUndo() {
        CiderShop shop = Shops.small();
        shop.press(0, 500, 1);
        shop.day();
        shop.undo();
        shop.undo();
        shop.undo();
        Check.due("29: a new tank where one was", shop.addTank(77), 1);
        int[] tank = {77, 0, 0, 0, 0, 0, 0, 77};
        for (int what = 0; what < tank.length; what++) {
            Check.due("29: it is empty", shop.tank(1, what), tank[what]);
        }
        Check.due("29: saved", shop.count(6), 3);
    }
}
