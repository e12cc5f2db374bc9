/** What several tests do with a shop. */
final class Shops {
    static final int INVALID = CiderShop.INVALID_ARGUMENT;
    static final int ILLEGAL = CiderShop.ILLEGAL_STATE;
    static final int FULL = CiderShop.CAPACITY_EXCEEDED;
    static final int NONE = CiderShop.NONE;

    /** How many kinds of edits there are. */
    static final int EDITS = 15;

    private Shops() {
    }

    static void type(CiderShop shop, String text) {
        for (int i = 0; i < text.length(); i++) {
            Check.due("appendCharacter in " + text, shop.appendCharacter(text.charAt(i)) > 0 ? 1 : 0, 1);
        }
    }

    static int run(CiderShop shop, String text) {
        shop.clearText();
        type(shop, text);
        return shop.runScript();
    }

    /** A shop with one lot of 1000 and two tanks of 1000; every rate and variety as at first. */
    static CiderShop small() {
        CiderShop shop = new CiderShop();
        shop.buy(0, 1000);
        shop.addTank(1000);
        shop.addTank(1000);
        return shop;
    }

    /** A shop whose lots 0 and 1 give pure juice: 500 for 1000, without haze, with the given sugar and acid. */
    static CiderShop clear(int sugar, int acid, int otherSugar, int otherAcid) {
        CiderShop shop = new CiderShop();
        shop.setRates(0, 0, 0, 0);
        shop.setVariety(0, 500, sugar, acid);
        shop.setVariety(1, 500, otherSugar, otherAcid);
        shop.buy(0, 20000);
        shop.buy(1, 20000);
        shop.addTank(5000);
        shop.addTank(5000);
        return shop;
    }

    /** A shop with juice, lees, alcohol, a heap and six saved states, in which each of the edits goes. */
    static CiderShop busy() {
        CiderShop shop = small();
        shop.setLabel(1, 0, 1000, 0, 1000, 1000);
        shop.press(0, 500, 0);
        shop.day();
        shop.rack(0, 1);
        return shop;
    }

    /** Makes the edit of this kind, in a busy shop; a script is typed first. */
    static int edit(CiderShop shop, int kind) {
        switch (kind) {
            case 0:
                return shop.setVariety(5, 400, 30, 20);
            case 1:
                return shop.setRates(1, 2, 3, 4);
            case 2:
                return shop.setLabel(2, 1, 2, 3, 4, 5);
            case 3:
                return shop.buy(4, 700);
            case 4:
                return shop.addTank(70);
            case 5:
                return shop.press(0, 100, 0);
            case 6:
                return shop.wet(30, 0);
            case 7:
                return shop.sellPomace();
            case 8:
                return shop.move(1, 100, 0);
            case 9:
                return shop.rack(1, 0);
            case 10:
                return shop.clean(0);
            case 11:
                return shop.pour(1);
            case 12:
                return shop.bottle(1, 1, 2, 20);
            case 13:
                return shop.day();
            default:
                return run(shop, "press 0 10 1;day;");
        }
    }

    /**
     * A saved state as far as it can be seen: everything but the text, the reason and the number of saved states. It
     * takes up to 170 calls of the 512 that an object is used for.
     */
    static String state(CiderShop shop) {
        StringBuilder seen = new StringBuilder();
        for (int what = 0; what <= 10; what++) {
            if (what < 4 || what > 6) {
                seen.append(shop.count(what)).append(' ');
            }
        }
        seen.append("| ");
        for (int variety = 0; variety < 6; variety++) {
            for (int what = 0; what < 3; what++) {
                seen.append(shop.variety(variety, what)).append(' ');
            }
        }
        seen.append("| ");
        int lots = shop.count(0);
        for (int lot = 0; lot < lots; lot++) {
            seen.append(shop.lot(lot, 0)).append(' ').append(shop.lot(lot, 1)).append(' ');
        }
        seen.append("| ");
        int tanks = shop.count(1);
        for (int tank = 0; tank < tanks; tank++) {
            for (int what = 0; what <= 7; what++) {
                seen.append(shop.tank(tank, what)).append(' ');
            }
            for (int label = 0; label < 4; label++) {
                seen.append(shop.why(tank, label)).append(' ');
            }
        }
        seen.append("| ");
        for (int what = 0; what <= 10; what++) {
            seen.append(shop.account(what)).append(' ');
        }
        seen.append("| ");
        for (int label = 0; label < 4; label++) {
            for (int size = 0; size <= 10; size++) {
                seen.append(shop.bottles(label, size)).append(' ');
            }
        }
        return seen.toString();
    }

    /** Everything that can be seen, the text only by its length. */
    static String whole(CiderShop shop) {
        StringBuilder seen = new StringBuilder(state(shop));
        seen.append("| ").append(shop.count(4)).append(' ').append(shop.count(5)).append(' ').append(shop.count(6));
        return seen.toString();
    }
}
