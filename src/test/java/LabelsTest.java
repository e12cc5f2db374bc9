/** The part "Labels and bottles" of the description, but for the reasons of other calls: its ends and its order. */
public final class LabelsTest {
    private static final int[][] ENDS = {{0, 191, 0}, {0, 192, 2}, {1, 191, 0}, {1, 190, 3}, {2, 90, 0}, {2, 91, 4},
        {3, 90, 0}, {3, 89, 5}, {4, 90, 0}, {4, 89, 6}};

    public static void main(String[] args) {
        labelsAtFirst();
        labelsAreApart();
        endsAreAllowed();
        sharesAboveAThousand();
        theGreatestHaze();
        orderOfChecks();
        noJuiceComesFirst();
        juiceIsCheckedLast();
        bottledIsMovedAway();
        everySize();
        bottlesSoFar();
        Check.finish("LabelsTest");
    }

    /** Two tanks of 1000; the first has 99 of juice with 19 sugar, 9 acid and 9 haze: 191, 90 and 90 for 1000. */
    private static CiderShop odd() {
        CiderShop shop = new CiderShop();
        shop.setRates(0, 100, 500, 0);
        shop.setVariety(0, 500, 200, 100);
        shop.buy(0, 20000);
        shop.addTank(1000);
        shop.addTank(1000);
        shop.press(0, 198, 0);
        return shop;
    }

    private static int setLabel(CiderShop shop, int label, int[] r) {
        return shop.setLabel(label, r[0], r[1], r[2], r[3], r[4]);
    }

    private static void dueReason(String name, CiderShop shop, int label, int reason) {
        Check.due(name + ": why", shop.why(0, label), reason);
        int answer = shop.bottle(0, label, 1, 1);
        if (reason == 0) {
            Check.due(name + ": bottle", answer, 1);
        } else {
            Check.due(name + ": bottle", answer, Shops.ILLEGAL);
        }
        Check.due(name + ": reason", shop.count(4), reason);
    }

    /** "There are four labels, 0 to 3 .. At first these are 0, 1000, 0, 1000 and 20." */
    private static void labelsAtFirst() {
        for (int label = 0; label < 4; label++) {
            Check.due("labels at first", new CiderShop().setLabel(label, 0, 1000, 0, 1000, 20), 0);
            CiderShop clear = Shops.clear(0, 0, 0, 0);
            clear.press(0, 100, 0);
            dueReason("labels at first: none of anything", clear, label, 0);
            CiderShop hazy = Shops.clear(200, 100, 0, 0);
            hazy.setRates(0, 20, 0, 0);
            hazy.press(0, 2000, 0);
            dueReason("labels at first: a haze of 20", hazy, label, 0);
            hazy.setRates(0, 21, 0, 0);
            hazy.pour(0);
            hazy.press(0, 2000, 0);
            dueReason("labels at first: a haze of 21", hazy, label, 6);
        }
    }

    /** Setting a label leaves the other ones as they were, and each may be set to every end. */
    private static void labelsAreApart() {
        for (int label = 0; label < 4; label++) {
            CiderShop shop = odd();
            Check.due("labels: set", shop.setLabel(label, 191, 191, 90, 90, 90), 1);
            for (int other = 0; other < 4; other++) {
                Check.due("labels: apart", shop.why(0, other), other == label ? 0 : 6);
            }
        }
    }

    /** "for each of them, x * 1000 / juice lies within (for the haze: is at most) what the label says; ends are allowed" */
    private static void endsAreAllowed() {
        for (int[] end : ENDS) {
            int[] label = {0, 1000, 0, 1000, 1000};
            label[end[0]] = end[1];
            CiderShop shop = odd();
            setLabel(shop, 2, label);
            dueReason("end " + end[0] + " at " + end[1], shop, 2, end[2]);
        }
        CiderShop shop = odd();
        shop.setLabel(2, 191, 191, 90, 90, 90);
        dueReason("all ends at once", shop, 2, 0);
    }

    /**
     * Little by little juice is moved away, and its sugar stays; then haze settles. So there may be more sugar or acid
     * than juice, which is more than the 1000 that a label can allow.
     */
    private static void sharesAboveAThousand() {
        CiderShop shop = new CiderShop();
        shop.setRates(0, 100, 500, 0);
        shop.setVariety(0, 500, 200, 100);
        shop.setLabel(0, 0, 1000, 0, 1000, 1000);
        shop.setLabel(1, 1000, 1000, 0, 1000, 1000);
        shop.buy(0, 40);
        shop.addTank(100);
        shop.addTank(100);
        shop.press(0, 40, 0);
        for (int i = 0; i < 16; i++) {
            Check.due("shares: no haze goes along", shop.move(0, 1, 1), 0);
        }
        // 4 sugar, 2 acid and 2 haze in 4 of juice
        Check.due("shares: 1000 of sugar", shop.share(0, 0), 1000);
        Check.due("shares: 1000 is allowed", shop.why(0, 1), 0);
        shop.day();
        Check.due("shares: 4 sugar in 3", shop.share(0, 0), 1333);
        dueReason("shares: 1333 of sugar", shop, 0, 3);
        Check.due("shares: 666 of acid", shop.share(0, 1), 666);
        shop.undo();
        shop.setVariety(0, 500, 0, 100);
        shop.pour(0);
        shop.buy(0, 40);
        shop.press(1, 40, 0);
        for (int i = 0; i < 18; i++) {
            shop.move(0, 1, 1);
        }
        // 2 acid and 2 haze in 2 of juice
        Check.due("shares: 1000 of acid", shop.share(0, 1), 1000);
        Check.due("shares: all of it is haze", shop.share(0, 2), 1000);
        Check.due("shares: all of that is allowed", shop.why(0, 0), 0);
        shop.day();
        Check.due("shares: 2 acid in 1", shop.share(0, 1), 2000);
        dueReason("shares: 2000 of acid", shop, 0, 5);
    }

    /** A juice that is nothing but haze is allowed by 1000 alone. */
    private static void theGreatestHaze() {
        CiderShop shop = Shops.clear(0, 0, 0, 0);
        shop.setRates(0, 100, 500, 0);
        shop.press(0, 20, 0);
        for (int i = 0; i < 9; i++) {
            shop.move(0, 1, 1);
        }
        Check.due("haze: a juice of 1", shop.tank(0, 1), 1);
        Check.due("haze: all of it", shop.share(0, 2), 1000);
        shop.setLabel(0, 0, 1000, 0, 1000, 1000);
        shop.setLabel(1, 0, 1000, 0, 1000, 999);
        Check.due("haze: 1000 allows it", shop.why(0, 0), 0);
        Check.due("haze: 999 does not", shop.why(0, 1), 6);
        shop.day();
        Check.due("haze: the last 1 never settles", shop.tank(0, 4), 1);
        Check.due("haze: so juice is left", shop.tank(0, 1), 1);
    }

    /** "The checks of bottling are made in this order": every mixture of what is wrong tells the first of it. */
    private static void orderOfChecks() {
        int[][] sugars = {{0, 1000, 0}, {192, 1000, 2}, {0, 190, 3}};
        int[][] acids = {{0, 1000, 0}, {91, 1000, 4}, {0, 89, 5}};
        int[][] hazes = {{90, 0}, {89, 6}};
        int[][] counts = {{99, 0}, {100, 7}};
        CiderShop shop = odd();
        for (int[] sugar : sugars) {
            for (int[] acid : acids) {
                for (int[] haze : hazes) {
                    shop.setLabel(3, sugar[0], sugar[1], acid[0], acid[1], haze[0]);
                    int why = sugar[2] != 0 ? sugar[2] : acid[2] != 0 ? acid[2] : haze[1];
                    Check.due("order: why", shop.why(0, 3), why);
                    for (int[] count : counts) {
                        int reason = why != 0 ? why : count[1];
                        int answer = shop.bottle(0, 3, 1, count[0]);
                        Check.due("order: bottle", answer, reason == 0 ? 99 : Shops.ILLEGAL);
                        Check.due("order: reason", shop.count(4), reason);
                        if (answer > 0) {
                            shop.undo();
                        }
                    }
                }
            }
        }
    }

    /** "1 the tank has no juice": whatever the label says, and however much is asked for. */
    private static void noJuiceComesFirst() {
        int[][] labels = {{0, 1000, 0, 1000, 1000}, {0, 0, 0, 0, 0}, {1, 1000, 0, 1000, 0}, {1000, 1000, 1000, 1000, 0}};
        for (int[] label : labels) {
            CiderShop shop = Shops.small();
            setLabel(shop, 1, label);
            dueReason("no juice", shop, 1, 1);
            Check.due("no juice: many bottles", shop.bottle(0, 1, 10, 5000), Shops.ILLEGAL);
            Check.due("no juice: reason", shop.count(4), 1);
        }
        CiderShop lees = odd();
        lees.day();
        lees.pour(0);
        dueReason("no juice but lees", lees, 1, 1);
    }

    /** "7 there is not enough juice": n * z may be all of it, and not one more. */
    private static void juiceIsCheckedLast() {
        int[][] rows = {{1, 1000, 1}, {1, 1001, 0}, {10, 100, 1}, {10, 101, 0}, {8, 125, 1}, {7, 142, 1}, {7, 143, 0},
            {10, 5000, 0}, {1, 5000, 0}};
        for (int[] r : rows) {
            CiderShop shop = Shops.clear(0, 0, 0, 0);
            shop.press(0, 2000, 0);
            String name = r[1] + " bottles of " + r[0];
            Check.due(name, shop.bottle(0, 0, r[0], r[1]), r[2] == 1 ? r[1] : Shops.ILLEGAL);
            Check.due(name + ": reason", shop.count(4), r[2] == 1 ? 0 : 7);
            Check.due(name + ": juice", shop.tank(0, 1), r[2] == 1 ? 1000 - r[0] * r[1] : 1000);
            Check.due(name + ": account", shop.account(5), r[2] == 1 ? r[0] * r[1] : 0);
        }
    }

    /** "n * z of the juice is moved away, as to another tank": with what goes along rounded down. */
    private static void bottledIsMovedAway() {
        int[][] amounts = {{1, 1}, {1, 6}, {1, 7}, {10, 1}, {1, 11}, {9, 2}, {1, 19}, {2, 47}, {5, 19}};
        for (int[] a : amounts) {
            CiderShop bottled = fermented();
            CiderShop moved = fermented();
            Check.due("moved away: bottle", bottled.bottle(0, 0, a[0], a[1]), a[1]);
            moved.move(0, a[0] * a[1], 1);
            for (int what = 0; what <= 7; what++) {
                Check.due("moved away: tank(0, " + what + ")", bottled.tank(0, what), moved.tank(0, what));
                Check.due("moved away: to no tank", bottled.tank(1, what), what == 0 || what == 7 ? 1000 : 0);
            }
        }
    }

    /** After a day: 95 of juice with 14 sugar, 9 acid, 5 haze and 5 alcohol, and 4 of lees. */
    private static CiderShop fermented() {
        CiderShop shop = odd();
        shop.setRates(0, 100, 500, 300);
        shop.day();
        shop.setLabel(0, 0, 1000, 0, 1000, 1000);
        return shop;
    }

    /** "n bottles of the size z (1 to 10)" */
    private static void everySize() {
        for (int size = 1; size <= 10; size++) {
            CiderShop shop = Shops.clear(0, 0, 0, 0);
            shop.press(0, 2000, 0);
            Check.due("size " + size, shop.bottle(0, 2, size, 3), 3);
            Check.due("size: juice", shop.tank(0, 1), 1000 - 3 * size);
            for (int other = 1; other <= 10; other++) {
                Check.due("size: told apart", shop.bottles(2, other), other == size ? 3 : 0);
            }
            Check.due("size: 0 for all sizes", shop.bottles(2, 0), 3);
        }
    }

    /** "Returns the number of all bottles of this label so far": of all sizes, of no other label, without those undone. */
    private static void bottlesSoFar() {
        CiderShop shop = Shops.clear(0, 0, 0, 0);
        shop.press(0, 2000, 0);
        Check.due("so far: the first", shop.bottle(0, 0, 1, 5), 5);
        Check.due("so far: of another size", shop.bottle(0, 0, 10, 6), 11);
        Check.due("so far: of another label", shop.bottle(0, 1, 10, 1), 1);
        Check.due("so far: refused", shop.bottle(0, 0, 10, 5000), Shops.ILLEGAL);
        Check.due("so far: unchanged", shop.bottles(0, 0), 11);
        shop.undo();
        shop.undo();
        Check.due("so far: undone", shop.bottles(0, 0), 5);
        Check.due("so far: of that size", shop.bottles(0, 10), 0);
        Check.due("so far: of another label", shop.bottles(1, 0), 0);
        Check.due("so far: again", shop.bottle(0, 0, 2, 1), 6);
    }
}
