/** Promise 29: undo. */
public final class UndoTest {
    public static void main(String[] args) {
        nothingSaved();
        eachEdit();
        sixStates();
        refusedCallsSaveNothing();
        textAndReasonStay();
        againAfterUndo();
        seventhDiscardsTheOldest();
        roundTheRing();
        allUndoneAndAgain();
        otherCallsAreNoEdits();
        editBehindUndo();
        Check.finish("UndoTest");
    }

    private static void nothingSaved() {
        CiderShop shop = new CiderShop();
        shop.sellPomace();
        Check.due("29: none", shop.undo(), Shops.ILLEGAL);
        Check.due("29: the reason stays", shop.count(4), 12);
        shop.day();
        Check.due("29: none left", shop.undo(), 0);
        Check.due("29: none again", shop.undo(), Shops.ILLEGAL);
    }

    private static void eachEdit() {
        for (int kind = 0; kind < Shops.EDITS; kind++) {
            CiderShop shop = Shops.busy();
            String before = Shops.state(shop);
            Check.due("29: edit " + kind, Shops.edit(shop, kind) >= 0 ? 1 : 0, 1);
            Check.due("29: it changes something " + kind, Shops.state(shop).equals(before) && kind != 2 ? 1 : 0, 0);
            Check.due("29: saved after " + kind, shop.count(6), 6);
            Check.due("29: undo of " + kind, shop.undo(), 5);
            Check.due("29: restored", Shops.state(shop), before);
        }
        CiderShop shop = Shops.busy();
        shop.setLabel(2, 1, 2, 3, 4, 5);
        shop.undo();
        Check.due("29: the label is restored", shop.setLabel(2, 0, 1000, 0, 1000, 20), 0);
    }

    /** After so many steps: each third one buys, which goes eight times; the others let a day pass. */
    private static CiderShop after(int steps) {
        CiderShop shop = new CiderShop();
        for (int i = 0; i < steps; i++) {
            Check.due("29: saved", shop.count(6), Math.min(i, 6));
            if (i % 3 == 0) {
                shop.buy(i % 6, i + 1);
            } else {
                shop.day();
            }
        }
        return shop;
    }

    private static void sixStates() {
        for (int steps = 0; steps <= 24; steps++) {
            CiderShop shop = after(steps);
            int saved = Math.min(steps, 6);
            for (int back = 1; back <= saved; back++) {
                Check.due("29: undo", shop.undo(), saved - back);
                if (back == 1 || back == saved) {
                    Check.due("29: back", Shops.state(shop), Shops.state(after(steps - back)));
                }
            }
            Check.due("29: none left", shop.undo(), Shops.ILLEGAL);
        }
        // a ninth lot is refused, and saves nothing
        CiderShop shop = after(25);
        Check.due("29: days", shop.count(3), 16);
        Check.due("29: undo goes to before the last day", shop.undo(), 5);
        Check.due("29: days", shop.count(3), 15);
    }

    private static void refusedCallsSaveNothing() {
        CiderShop shop = Shops.small();
        for (int i = 0; i < 6; i++) {
            shop.day();
        }
        shop.sellPomace();
        shop.wet(1, 0);
        shop.press(0, 20000, 0);
        shop.buy(6, 6);
        shop.setRates(-1, 0, 0, 0);
        for (int left = 5; left >= 0; left--) {
            Check.due("29: undo", shop.undo(), left);
            Check.due("29: days", shop.count(3), left);
        }
    }

    private static void textAndReasonStay() {
        CiderShop shop = Shops.small();
        Shops.type(shop, "day;");
        shop.day();
        Shops.type(shop, "day;");
        shop.pour(0);
        Check.due("29: undo", shop.undo(), 3);
        Check.due("29: the text stays", shop.count(5), 8);
        Check.due("29: the reason stays", shop.count(4), 1);
        Check.due("29: the text can be run", shop.runScript(), 2);
    }

    private static void againAfterUndo() {
        CiderShop shop = Shops.small();
        shop.press(0, 500, 1);
        shop.day();
        shop.undo();
        shop.undo();
        shop.undo();
        Check.due("29: a new tank where one was", shop.addTank(77), 1);
        int[] tank = {77, 0, 0, 0, 0, 0, 0, 77};
        for (int what = 0; what < tank.length; what++) {
            Check.due("29: it is empty", shop.tank(1, what), tank[what]);
        }
        Check.due("29: saved", shop.count(6), 3);
    }

    /** "At most 6 states are saved; when a seventh is saved, the oldest one is discarded." */
    private static void seventhDiscardsTheOldest() {
        for (int edits = 1; edits <= 15; edits++) {
            CiderShop shop = new CiderShop();
            for (int i = 1; i <= edits; i++) {
                shop.day();
                Check.due("29: saved after " + i, shop.count(6), Math.min(i, 6));
            }
            for (int left = Math.min(edits, 6) - 1; left >= 0; left--) {
                Check.due("29: still saved", shop.undo(), left);
                Check.due("29: the count tells it, too", shop.count(6), left);
            }
            Check.due("29: as far back as can be", shop.count(3), Math.max(0, edits - 6));
            Check.due("29: and no further", shop.undo(), Shops.ILLEGAL);
            Check.due("29: nothing changes", shop.count(3), Math.max(0, edits - 6));
        }
    }

    /** Edits and undos by turns, each number of them, for as long as an object is used. */
    private static void roundTheRing() {
        for (int forth = 1; forth <= 9; forth++) {
            for (int back = 0; back <= 6; back++) {
                CiderShop shop = new CiderShop();
                int days = 0;
                int saved = 0;
                for (int round = 0; round < 9; round++) {
                    for (int i = 0; i < forth; i++) {
                        days++;
                        saved = Math.min(saved + 1, 6);
                        Check.due("29: day", shop.day(), days);
                    }
                    for (int i = 0; i < back; i++) {
                        int due = saved == 0 ? Shops.ILLEGAL : saved - 1;
                        days -= saved == 0 ? 0 : 1;
                        saved = Math.max(saved - 1, 0);
                        Check.due("29: undo", shop.undo(), due);
                    }
                    Check.due("29: days", shop.count(3), days);
                    Check.due("29: saved", shop.count(6), saved);
                }
            }
        }
    }

    /** What is undone is gone: a new edit saves the state that was restored. */
    private static void allUndoneAndAgain() {
        CiderShop shop = new CiderShop();
        shop.buy(0, 100);
        shop.buy(1, 200);
        shop.undo();
        Check.due("29: the number is free again", shop.buy(2, 300), 1);
        Check.due("29: the new one", shop.lot(1, 1), 300);
        Check.due("29: undo", shop.undo(), 1);
        Check.due("29: the first stays", shop.lot(0, 1), 100);
        Check.due("29: the second is gone", shop.lot(1, 1), Shops.INVALID);
        Check.due("29: undo", shop.undo(), 0);
        Check.due("29: as new", Shops.whole(shop), Shops.whole(new CiderShop()));
        Check.due("29: none left", shop.undo(), Shops.ILLEGAL);
        Check.due("29: still as new", Shops.whole(shop), Shops.whole(new CiderShop()));
    }

    /** The edits are told by name; appendCharacter() and clearText() are not among them, nor is undo() itself. */
    private static void otherCallsAreNoEdits() {
        CiderShop shop = new CiderShop();
        shop.day();
        Shops.type(shop, "day;");
        shop.clearText();
        Check.due("29: one state", shop.count(6), 1);
        Check.due("29: undo", shop.undo(), 0);
        Check.due("29: undo saves nothing", shop.undo(), Shops.ILLEGAL);
        Check.due("29: days", shop.count(3), 0);
    }

    /** "Each of them saves the state that preceded it": also behind an undo and a refused call. */
    private static void editBehindUndo() {
        for (int kind = 0; kind < Shops.EDITS; kind++) {
            CiderShop shop = Shops.busy();
            shop.day();
            shop.undo();
            shop.pour(0);
            shop.buy(9, 9);
            Shops.run(shop, "day;day;rack 0 1;");
            String before = Shops.state(shop);
            int saved = shop.count(6);
            Check.due("29: five are left", saved, 5);
            Shops.edit(shop, kind);
            Check.due("29: one more", shop.count(6), 6);
            Check.due("29: undo of " + kind, shop.undo(), 5);
            Check.due("29: the state that preceded it", Shops.state(shop), before);
            Check.due("29: the edit goes again", Shops.edit(shop, kind) >= 0 ? 1 : 0, 1);
        }
    }
}
