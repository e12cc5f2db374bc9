/**
 * Promises 2 to 28: the range of every argument. Each row holds the least and the most that is allowed, with the
 * answers due to them; what is one less or one more, -1 and the least and greatest int are to be invalid.
 */
public final class RangesTest {
    public static void main(String[] args) {
        settings();
        setLabel();
        buyAndAddTank();
        press();
        pressOfFewer();
        wet();
        move();
        rack();
        cleanAndPour();
        bottle();
        appendCharacter();
        lookingAtNumbers();
        lookingAtTanks();
        whatWouldBe();
        emptyShop();
        Check.finish("RangesTest");
    }

    private static CiderShop fresh() {
        return new CiderShop();
    }

    /** All eight lots, of 1000 each, and all six tanks, of 100 each, with 60 of juice in each tank; the heap is 240. */
    private static CiderShop full() {
        CiderShop shop = new CiderShop();
        for (int lot = 0; lot < 8; lot++) {
            shop.buy(0, 1000);
        }
        for (int tank = 0; tank < 6; tank++) {
            shop.addTank(100);
            shop.press(tank, 100, tank);
        }
        return shop;
    }

    /** The greatest tanks: 0 full of pure juice, 1 empty. */
    private static CiderShop great() {
        CiderShop shop = Shops.clear(0, 0, 0, 0);
        shop.press(0, 10000, 0);
        return shop;
    }

    private static void settings() {
        Check.range("2: variety", 0, 600, 5, 600, v -> fresh().setVariety(v, 700, 10, 10));
        Check.range("2: yields", 300, 600, 800, 600, v -> fresh().setVariety(0, v, 10, 10));
        Check.range("2: sugar", 0, 600, 200, 600, v -> fresh().setVariety(0, 700, v, 10));
        Check.range("2: acid", 0, 600, 100, 600, v -> fresh().setVariety(0, 700, 10, v));
        Check.range("3: w", 0, 1, 20, 1, v -> fresh().setRates(v, 40, 200, 50));
        Check.range("3: h", 0, 1, 100, 1, v -> fresh().setRates(3, v, 200, 50));
        Check.range("3: s", 0, 1, 500, 1, v -> fresh().setRates(3, 40, v, 50));
        Check.range("3: f", 0, 1, 300, 1, v -> fresh().setRates(3, 40, 200, v));
    }

    private static void setLabel() {
        Check.range("4: label", 0, 1, 3, 1, v -> fresh().setLabel(v, 0, 1000, 0, 1000, 21));
        Check.range("4: leastSugar", 0, 0, 1000, 1, v -> fresh().setLabel(0, v, 1000, 0, 1000, 20));
        Check.range("4: leastSugar below mostSugar", 0, 1, 300, 1, v -> fresh().setLabel(0, v, 300, 0, 1000, 20));
        Check.range("4: mostSugar", 0, 1, 1000, 0, v -> fresh().setLabel(0, 0, v, 0, 1000, 20));
        Check.range("4: mostSugar from leastSugar", 300, 1, 1000, 1, v -> fresh().setLabel(0, 300, v, 0, 1000, 20));
        Check.range("4: mostSugar at the end", 1000, 1, 1000, 1, v -> fresh().setLabel(0, 1000, v, 0, 1000, 20));
        Check.range("4: leastAcid", 0, 0, 1000, 1, v -> fresh().setLabel(0, 0, 1000, v, 1000, 20));
        Check.range("4: leastAcid below mostAcid", 0, 1, 300, 1, v -> fresh().setLabel(0, 0, 1000, v, 300, 20));
        Check.range("4: mostAcid", 0, 1, 1000, 0, v -> fresh().setLabel(0, 0, 1000, 0, v, 20));
        Check.range("4: mostAcid from leastAcid", 300, 1, 1000, 1, v -> fresh().setLabel(0, 0, 1000, 300, v, 20));
        Check.range("4: mostAcid at the end", 1000, 1, 1000, 1, v -> fresh().setLabel(0, 0, 1000, 1000, v, 20));
        Check.range("4: mostHaze", 0, 1, 1000, 1, v -> fresh().setLabel(0, 0, 1000, 0, 1000, v));
    }

    private static void buyAndAddTank() {
        Check.range("5: variety", 0, 0, 5, 0, v -> fresh().buy(v, 10));
        Check.range("5: mass", 1, 0, 20000, 0, v -> fresh().buy(0, v));
        Check.range("6: room", 1, 0, 5000, 0, v -> fresh().addTank(v));
    }

    private static void press() {
        Check.range("7: lot", 0, 6, 7, 6, v -> full().press(v, 10, 0));
        Check.range("7: tank", 0, 6, 5, 6, v -> full().press(0, 10, v));
        // 20000 apples give at least 6000 of juice, for which no tank has room
        Check.range("7: mass", 1, 0, 20000, Shops.FULL, v -> Shops.clear(0, 0, 0, 0).press(0, v, 0));
        Check.range("7: mass of a lot of 500", 1, 0, 20000, Shops.ILLEGAL, v -> {
            CiderShop shop = Shops.small();
            shop.press(0, 500, 0);
            return shop.press(0, v, 1);
        });
    }

    /** "a lot", "a tank": not one that is not there yet. */
    private static void pressOfFewer() {
        Check.range("7: lot of one", 0, 6, 0, 6, v -> Shops.small().press(v, 10, 0));
        Check.range("7: tank of two", 0, 6, 1, 6, v -> Shops.small().press(0, 10, v));
    }

    private static void wet() {
        // a heap of 2 with water 20000 gives just the juice for which the greatest tank has room
        Check.range("8: water", 0, 0, 20000, 5000, v -> {
            CiderShop shop = Shops.clear(0, 0, 0, 0);
            shop.press(0, 3, 0);
            return shop.wet(v, 1);
        });
        Check.range("8: tank", 0, 10, 5, 10, v -> {
            CiderShop shop = full();
            shop.sellPomace();
            shop.press(7, 50, 5);
            shop.pour(5);
            return shop.wet(20, v);
        });
    }

    private static void move() {
        Check.range("10: from", 0, 1, 5, 1, v -> full().move(v, 30, 3));
        Check.range("10: to", 0, 1, 5, 1, v -> full().move(3, 30, v));
        Check.range("10: amount", 1, 0, 5000, 0, v -> great().move(0, v, 1));
        for (int tank = 0; tank < 6; tank++) {
            Check.due("10: the same tank " + tank, full().move(tank, 1, tank), Shops.INVALID);
        }
    }

    private static void rack() {
        Check.range("11: from", 0, 40, 5, 40, v -> full().rack(v, 3));
        Check.range("11: to", 0, 40, 5, 40, v -> full().rack(3, v));
        for (int tank = 0; tank < 6; tank++) {
            Check.due("11: the same tank " + tank, full().rack(tank, tank), Shops.INVALID);
        }
    }

    private static void cleanAndPour() {
        Check.range("12: tank", 0, Shops.ILLEGAL, 5, Shops.ILLEGAL, v -> full().clean(v));
        Check.range("12: tank of two", 0, 0, 1, 0, v -> Shops.small().clean(v));
        Check.range("13: tank", 0, 60, 5, 60, v -> full().pour(v));
        Check.range("13: tank of two", 0, Shops.ILLEGAL, 1, Shops.ILLEGAL, v -> Shops.small().pour(v));
    }

    private static void bottle() {
        Check.range("14: tank", 0, 1, 5, 1, v -> {
            CiderShop shop = full();
            shop.setLabel(0, 0, 1000, 0, 1000, 1000);
            return shop.bottle(v, 0, 10, 1);
        });
        Check.range("14: label", 0, 7, 3, 7, v -> great().bottle(0, v, 10, 7));
        Check.range("14: size", 1, 500, 10, 500, v -> great().bottle(0, 0, v, 500));
        Check.range("14: count", 1, 1, 5000, 5000, v -> great().bottle(0, 0, 1, v));
        Check.range("14: count, with the greatest size", 1, 1, 5000, Shops.ILLEGAL, v -> great().bottle(0, 0, 10, v));
    }

    private static void appendCharacter() {
        Check.range("16: character", 0, 1, 255, 1, v -> fresh().appendCharacter(v));
    }

    private static void lookingAtNumbers() {
        Check.range("19: what", 0, 8, 10, 50, v -> full().count(v));
        Check.range("20: lot", 0, 900, 7, 1000, v -> full().lot(v, 1));
        Check.range("20: lot of one", 0, 1000, 0, 1000, v -> Shops.small().lot(v, 1));
        Check.range("20: what", 0, 0, 1, 900, v -> full().lot(0, v));
        Check.range("21: variety", 0, 600, 5, 600, v -> fresh().variety(v, 0));
        Check.range("21: what", 0, 600, 2, 50, v -> fresh().variety(0, v));
        Check.range("25: what", 0, 8000, 10, 0, v -> full().account(v));
        Check.range("26: label", 0, 0, 3, 0, v -> fresh().bottles(v, 0));
        Check.range("26: size", 0, 0, 10, 0, v -> fresh().bottles(0, v));
    }

    private static void lookingAtTanks() {
        Check.range("22: tank", 0, 100, 5, 100, v -> full().tank(v, 0));
        Check.range("22: tank of two", 0, 1000, 1, 1000, v -> Shops.small().tank(v, 0));
        Check.range("22: what", 0, 100, 7, 40, v -> full().tank(0, v));
        Check.range("23: tank", 0, 100, 5, 100, v -> full().share(v, 0));
        Check.range("23: tank of two", 0, Shops.NONE, 1, Shops.NONE, v -> Shops.small().share(v, 0));
        Check.range("23: what", 0, 100, 3, 0, v -> full().share(0, v));
        Check.range("24: tank", 0, 6, 5, 6, v -> full().why(v, 0));
        Check.range("24: tank of two", 0, 1, 1, 1, v -> Shops.small().why(v, 0));
        Check.range("24: label", 0, 6, 3, 6, v -> full().why(0, v));
    }

    private static void whatWouldBe() {
        Check.range("27: tank", 0, Shops.NONE, 5, Shops.NONE, v -> full().daysTo(v, 0));
        Check.range("27: tank of two", 0, Shops.NONE, 1, Shops.NONE, v -> Shops.small().daysTo(v, 0));
        Check.range("27: label", 0, 0, 3, 0, v -> great().daysTo(0, v));
        Check.range("28: from", 0, Shops.NONE, 5, Shops.NONE, v -> full().blendFor(v, 3, 0));
        Check.range("28: to", 0, Shops.NONE, 5, Shops.NONE, v -> full().blendFor(3, v, 0));
        Check.range("28: to of two", 1, 1, 1, 1, v -> great().blendFor(0, v, 0));
        Check.range("28: from of two", 0, 1, 0, 1, v -> great().blendFor(v, 1, 0));
        Check.range("28: label", 0, 1, 3, 1, v -> great().blendFor(0, 1, v));
        for (int tank = 0; tank < 6; tank++) {
            Check.due("28: the same tank " + tank, full().blendFor(tank, tank, 0), Shops.INVALID);
        }
    }

    /** In a shop without lots and tanks, every number of one names something that does not exist. */
    private static void emptyShop() {
        int[] numbers = {Integer.MIN_VALUE, -1, 0, 1, 5, 7, Integer.MAX_VALUE};
        for (int n : numbers) {
            CiderShop shop = fresh();
            Check.due("7: no lot " + n, shop.press(n, 1, 0), Shops.INVALID);
            Check.due("8: no tank " + n, shop.wet(0, n), Shops.INVALID);
            Check.due("10: no tank " + n, shop.move(n, 1, 1), Shops.INVALID);
            Check.due("11: no tank " + n, shop.rack(n, 1), Shops.INVALID);
            Check.due("12: no tank " + n, shop.clean(n), Shops.INVALID);
            Check.due("13: no tank " + n, shop.pour(n), Shops.INVALID);
            Check.due("14: no tank " + n, shop.bottle(n, 0, 1, 1), Shops.INVALID);
            Check.due("20: no lot " + n, shop.lot(n, 0), Shops.INVALID);
            Check.due("22: no tank " + n, shop.tank(n, 0), Shops.INVALID);
            Check.due("23: no tank " + n, shop.share(n, 0), Shops.INVALID);
            Check.due("24: no tank " + n, shop.why(n, 0), Shops.INVALID);
            Check.due("27: no tank " + n, shop.daysTo(n, 0), Shops.INVALID);
            Check.due("28: no tank " + n, shop.blendFor(n, 1, 0), Shops.INVALID);
            Check.due("none of them leaves a reason", shop.count(4), 0);
            Check.due("none of them is saved", shop.count(6), 0);
        }
    }
}
