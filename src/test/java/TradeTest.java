/** Promises 5 to 15: lots and tanks. */
public final class TradeTest {
    public static void main(String[] args) {
        buy();
        addTank();
        press();
        pressRefused();
        pressRoom();
        wet();
        wetRefused();
        sellPomace();
        move();
        moveRefused();
        rack();
        clean();
        pour();
        bottle();
        bottleOrder();
        bottleTakesAlong();
        day();
        reasonIsKept();
        Check.finish("TradeTest");
    }

    private static void buy() {
        CiderShop shop = new CiderShop();
        Check.due("5: variety too low", shop.buy(-1, 1), Shops.INVALID);
        Check.due("5: variety too high", shop.buy(6, 1), Shops.INVALID);
        Check.due("5: mass 0", shop.buy(0, 0), Shops.INVALID);
        Check.due("5: mass too high", shop.buy(0, 20001), Shops.INVALID);
        Check.due("5: least mass", shop.buy(5, 1), 0);
        Check.due("5: most mass", shop.buy(2, 20000), 1);
        Check.due("5: variety of 0", shop.lot(0, 0), 5);
        Check.due("5: mass of 0", shop.lot(0, 1), 1);
        Check.due("5: variety of 1", shop.lot(1, 0), 2);
        Check.due("5: mass of 1", shop.lot(1, 1), 20000);
        Check.due("5: bought", shop.account(0), 20001);
        for (int lot = 2; lot < 8; lot++) {
            Check.due("5: number", shop.buy(0, 10), lot);
        }
        Check.due("5: a ninth", shop.buy(0, 10), Shops.FULL);
        Check.due("5: invalid goes ahead of full", shop.buy(0, 0), Shops.INVALID);
        Check.due("5: lots", shop.count(0), 8);
        Check.due("5: bought in all", shop.account(0), 20061);
    }

    private static void addTank() {
        CiderShop shop = new CiderShop();
        Check.due("6: room 0", shop.addTank(0), Shops.INVALID);
        Check.due("6: room 5001", shop.addTank(5001), Shops.INVALID);
        Check.due("6: room 1", shop.addTank(1), 0);
        Check.due("6: room 5000", shop.addTank(5000), 1);
        Check.due("6: room of 0", shop.tank(0, 0), 1);
        for (int what = 1; what <= 6; what++) {
            Check.due("6: empty", shop.tank(1, what), 0);
        }
        for (int tank = 2; tank < 6; tank++) {
            Check.due("6: number", shop.addTank(10), tank);
        }
        Check.due("6: a seventh", shop.addTank(10), Shops.FULL);
        Check.due("6: invalid goes ahead of full", shop.addTank(0), Shops.INVALID);
        Check.due("6: tanks", shop.count(1), 6);
    }

    private static void press() {
        CiderShop shop = Shops.small();
        shop.setVariety(0, 700, 123, 77);
        // 333 * 700 / 1000 = 233; of it 28 sugar, 17 acid, 9 haze; 100 pomace
        Check.due("7: juice", shop.press(0, 333, 1), 233);
        int[] tank = {1000, 233, 28, 17, 9, 0, 0, 767};
        for (int what = 0; what < tank.length; what++) {
            Check.due("7: tank(1, " + what + ")", shop.tank(1, what), tank[what]);
        }
        Check.due("7: lot", shop.lot(0, 1), 667);
        Check.due("7: heap", shop.count(2), 100);
        Check.due("7: the rest of the lot", shop.press(0, 667, 1), 466);
        Check.due("7: sugar adds up", shop.tank(1, 2), 85);
        Check.due("7: the lot is empty", shop.lot(0, 1), 0);
        Check.due("7: the lot stands", shop.count(0), 1);
        shop.buy(5, 1000);
        shop.setVariety(5, 300, 10, 20);
        Check.due("7: the last variety", shop.press(1, 1000, 0), 300);
        Check.due("7: its sugar", shop.tank(0, 2), 3);
        Check.due("7: its acid", shop.tank(0, 3), 6);
    }

    private static void pressRefused() {
        CiderShop shop = Shops.small();
        Check.due("7: lot -1", shop.press(-1, 1, 0), Shops.INVALID);
        Check.due("7: lot 1", shop.press(1, 1, 0), Shops.INVALID);
        Check.due("7: tank -1", shop.press(0, 1, -1), Shops.INVALID);
        Check.due("7: tank 2", shop.press(0, 1, 2), Shops.INVALID);
        Check.due("7: mass 0", shop.press(0, 0, 0), Shops.INVALID);
        Check.due("7: mass 20001", shop.press(0, 20001, 0), Shops.INVALID);
        Check.due("7: no reason", shop.count(4), 0);
        Check.due("7: the lot has less", shop.press(0, 1001, 0), Shops.ILLEGAL);
        Check.due("7: reason", shop.count(4), 11);
        Check.due("7: illegal goes ahead of full", shop.press(0, 20000, 0), Shops.ILLEGAL);
        Check.due("7: nothing pressed", shop.lot(0, 1), 1000);
        Check.due("7: no heap", shop.count(2), 0);
    }

    private static void pressRoom() {
        CiderShop shop = new CiderShop();
        shop.buy(0, 1000);
        shop.addTank(60);
        Check.due("7: 61 has no room", shop.press(0, 102, 0), Shops.FULL);
        Check.due("7: unchanged", shop.lot(0, 1), 1000);
        Check.due("7: 60 has room", shop.press(0, 101, 0), 60);
        Check.due("7: 1 has no room", shop.press(0, 2, 0), Shops.FULL);
        Check.due("7: 0 has room", shop.press(0, 1, 0), 0);
        Check.due("7: it became pomace", shop.count(2), 42);
        shop.setRates(0, 0, 500, 0);
        shop.day();
        Check.due("7: lees take room", shop.tank(0, 5), 1);
        Check.due("7: still no room", shop.press(0, 2, 0), Shops.FULL);
    }

    private static void wet() {
        CiderShop shop = Shops.small();
        shop.press(0, 500, 0);
        // (200 + 1003) / 4 = 300; of it 6 sugar, 3 acid, 30 haze
        Check.due("8: juice", shop.wet(1003, 1), 300);
        int[] tank = {1000, 300, 6, 3, 30, 0, 0, 700};
        for (int what = 0; what < tank.length; what++) {
            Check.due("8: tank(1, " + what + ")", shop.tank(1, what), tank[what]);
        }
        Check.due("8: heap", shop.count(2), 903);
        Check.due("8: water", shop.account(1), 1003);
        Check.due("8: without water", shop.wet(0, 1), 225);
        Check.due("8: heap", shop.count(2), 678);
        Check.due("8: water", shop.account(1), 1003);
    }

    private static void wetRefused() {
        CiderShop shop = Shops.small();
        Check.due("8: no heap", shop.wet(10, 0), Shops.ILLEGAL);
        Check.due("8: reason", shop.count(4), 12);
        Check.due("8: invalid goes ahead of illegal", shop.wet(20001, 0), Shops.INVALID);
        shop.press(0, 1, 0);
        Check.due("8: heap of 1", shop.count(2), 1);
        Check.due("8: water -1", shop.wet(-1, 0), Shops.INVALID);
        Check.due("8: water 20001", shop.wet(20001, 0), Shops.INVALID);
        Check.due("8: tank -1", shop.wet(1, -1), Shops.INVALID);
        Check.due("8: tank 2", shop.wet(1, 2), Shops.INVALID);
        Check.due("8: most water has no room", shop.wet(20000, 0), Shops.FULL);
        Check.due("8: no water used", shop.account(1), 0);
        Check.due("8: juice of 1001 has no room", shop.wet(4003, 0), Shops.FULL);
        Check.due("8: juice of 1000 has room", shop.wet(4002, 0), 1000);
        shop.sellPomace();
        shop.press(0, 1, 0);
        Check.due("8: a juice of 0 has room", shop.wet(2, 0), 0);
        Check.due("8: the water stays in the heap", shop.count(2), 3);
        Check.due("8: water", shop.account(1), 4004);
    }

    private static void sellPomace() {
        CiderShop shop = Shops.small();
        Check.due("9: no heap", shop.sellPomace(), Shops.ILLEGAL);
        Check.due("9: reason", shop.count(4), 12);
        shop.press(0, 500, 0);
        Check.due("9: pomace", shop.sellPomace(), 200);
        Check.due("9: heap", shop.count(2), 0);
        Check.due("9: sold", shop.account(4), 200);
        shop.press(0, 5, 0);
        Check.due("9: again", shop.sellPomace(), 2);
        Check.due("9: sold in all", shop.account(4), 202);
    }

    private static void move() {
        CiderShop shop = Shops.small();
        shop.press(0, 500, 0);
        shop.day();
        // juice 298, sugar 29, acid 15, haze 10, lees 2, alcohol 1
        Check.due("10: haze", shop.move(0, 149, 1), 5);
        int[] from = {1000, 149, 15, 8, 5, 2, 1, 849};
        int[] to = {1000, 149, 14, 7, 5, 0, 0, 851};
        for (int what = 0; what < 8; what++) {
            Check.due("10: from " + what, shop.tank(0, what), from[what]);
            Check.due("10: to " + what, shop.tank(1, what), to[what]);
        }
        Check.due("10: all of it", shop.move(0, 149, 1), 5);
        int[] rest = {1000, 0, 0, 0, 0, 2, 0, 998};
        int[] all = {1000, 298, 29, 15, 10, 0, 1, 702};
        for (int what = 0; what < 8; what++) {
            Check.due("10: rest " + what, shop.tank(0, what), rest[what]);
            Check.due("10: all " + what, shop.tank(1, what), all[what]);
        }
        Check.due("10: little haze goes along as none", shop.move(1, 1, 0), 0);
        shop.rack(0, 1);
        Check.due("10: all but one", shop.move(1, 297, 0), 9);
        Check.due("10: the last one's haze", shop.move(1, 1, 0), 1);
        Check.due("10: the last one's sugar", shop.tank(0, 2), 29);
    }

    private static void moveRefused() {
        CiderShop shop = Shops.small();
        shop.addTank(100);
        Check.due("10: no juice", shop.move(0, 1, 1), Shops.ILLEGAL);
        Check.due("10: reason", shop.count(4), 7);
        shop.press(0, 500, 0);
        Check.due("10: from -1", shop.move(-1, 1, 1), Shops.INVALID);
        Check.due("10: from 3", shop.move(3, 1, 1), Shops.INVALID);
        Check.due("10: to -1", shop.move(0, 1, -1), Shops.INVALID);
        Check.due("10: to 3", shop.move(0, 1, 3), Shops.INVALID);
        Check.due("10: the same", shop.move(0, 1, 0), Shops.INVALID);
        Check.due("10: amount 0", shop.move(0, 0, 1), Shops.INVALID);
        Check.due("10: amount 5001", shop.move(0, 5001, 1), Shops.INVALID);
        Check.due("10: no reason", shop.count(4), 0);
        Check.due("10: illegal goes ahead of full", shop.move(0, 301, 2), Shops.ILLEGAL);
        Check.due("10: no room", shop.move(0, 101, 2), Shops.FULL);
        Check.due("10: the reason stays", shop.count(4), 7);
        Check.due("10: just room", shop.move(0, 100, 2), 4);
        Check.due("10: room left", shop.tank(2, 7), 0);
    }

    private static void rack() {
        CiderShop shop = Shops.small();
        shop.addTank(100);
        Check.due("11: no juice", shop.rack(0, 1), Shops.ILLEGAL);
        Check.due("11: reason", shop.count(4), 1);
        shop.press(0, 500, 0);
        shop.day();
        Check.due("11: as has room", shop.rack(0, 2), 100);
        Check.due("11: haze goes along", shop.tank(2, 4), 3);
        Check.due("11: no room at all", shop.rack(0, 2), Shops.FULL);
        Check.due("11: illegal goes ahead of full", shop.rack(1, 2), Shops.ILLEGAL);
        Check.due("11: as there is", shop.rack(0, 1), 198);
        Check.due("11: lees stay", shop.tank(0, 5), 2);
        Check.due("11: alcohol goes", shop.tank(1, 6), 1);
        shop.move(1, 1, 0);
        Check.due("11: a juice of 1", shop.rack(0, 1), 1);
        shop.move(2, 1, 1);
        Check.due("11: a room of 1", shop.rack(1, 2), 1);
        Check.due("11: from -1", shop.rack(-1, 1), Shops.INVALID);
        Check.due("11: from 3", shop.rack(3, 1), Shops.INVALID);
        Check.due("11: to -1", shop.rack(1, -1), Shops.INVALID);
        Check.due("11: to 3", shop.rack(1, 3), Shops.INVALID);
        Check.due("11: the same", shop.rack(1, 1), Shops.INVALID);
    }

    private static void clean() {
        CiderShop shop = Shops.small();
        Check.due("12: nothing in it", shop.clean(0), 0);
        shop.press(0, 500, 0);
        shop.day();
        Check.due("12: juice in it", shop.clean(0), Shops.ILLEGAL);
        Check.due("12: reason", shop.count(4), 13);
        shop.move(0, 297, 1);
        Check.due("12: a juice of 1 in it", shop.clean(0), Shops.ILLEGAL);
        shop.rack(0, 1);
        Check.due("12: lees", shop.clean(0), 2);
        Check.due("12: none left", shop.tank(0, 5), 0);
        Check.due("12: room left", shop.tank(0, 7), 1000);
        Check.due("12: thrown away", shop.account(3), 2);
        Check.due("12: tank -1", shop.clean(-1), Shops.INVALID);
        Check.due("12: tank 2", shop.clean(2), Shops.INVALID);
    }

    private static void pour() {
        CiderShop shop = Shops.small();
        Check.due("13: no juice", shop.pour(0), Shops.ILLEGAL);
        Check.due("13: reason", shop.count(4), 1);
        shop.press(0, 500, 0);
        shop.day();
        Check.due("13: juice", shop.pour(0), 298);
        int[] tank = {1000, 0, 0, 0, 0, 2, 0, 998};
        for (int what = 0; what < tank.length; what++) {
            Check.due("13: tank(0, " + what + ")", shop.tank(0, what), tank[what]);
        }
        Check.due("13: poured away", shop.account(6), 298);
        shop.press(0, 10, 0);
        shop.pour(0);
        Check.due("13: poured away in all", shop.account(6), 304);
        Check.due("13: tank -1", shop.pour(-1), Shops.INVALID);
        Check.due("13: tank 2", shop.pour(2), Shops.INVALID);
    }

    private static void bottle() {
        CiderShop shop = Shops.clear(100, 50, 0, 0);
        shop.press(0, 2000, 0);
        Check.due("14: tank -1", shop.bottle(-1, 0, 1, 1), Shops.INVALID);
        Check.due("14: tank 2", shop.bottle(2, 0, 1, 1), Shops.INVALID);
        Check.due("14: label -1", shop.bottle(0, -1, 1, 1), Shops.INVALID);
        Check.due("14: label 4", shop.bottle(0, 4, 1, 1), Shops.INVALID);
        Check.due("14: size 0", shop.bottle(0, 0, 0, 1), Shops.INVALID);
        Check.due("14: size 11", shop.bottle(0, 0, 11, 1), Shops.INVALID);
        Check.due("14: count 0", shop.bottle(0, 0, 1, 0), Shops.INVALID);
        Check.due("14: count 5001", shop.bottle(0, 0, 1, 5001), Shops.INVALID);
        Check.due("14: 500 of size 1", shop.bottle(0, 0, 1, 500), 500);
        Check.due("14: 30 of size 10", shop.bottle(0, 0, 10, 30), 530);
        Check.due("14: another label", shop.bottle(0, 3, 7, 2), 2);
        Check.due("14: too many", shop.bottle(0, 0, 1, 187), Shops.ILLEGAL);
        Check.due("14: reason", shop.count(4), 7);
        Check.due("14: far too many", shop.bottle(0, 0, 10, 5000), Shops.ILLEGAL);
        Check.due("14: all of it", shop.bottle(0, 0, 6, 31), 561);
        Check.due("14: no juice left", shop.tank(0, 1), 0);
        Check.due("14: no sugar left", shop.tank(0, 2), 0);
        Check.due("14: no acid left", shop.tank(0, 3), 0);
        Check.due("14: bottled", shop.account(5), 1000);
        Check.due("14: size 1", shop.bottles(0, 1), 500);
        Check.due("14: size 6", shop.bottles(0, 6), 31);
        Check.due("14: label 3", shop.bottles(3, 7), 2);
    }

    /** Each label refuses for one reason and for all that come after it. */
    private static void bottleOrder() {
        CiderShop shop = Shops.small();
        shop.setLabel(1, 200, 200, 200, 200, 0);
        Check.due("14: no juice", shop.bottle(0, 1, 10, 5000), Shops.ILLEGAL);
        Check.due("14: reason 1", shop.count(4), 1);
        shop.press(0, 500, 0);
        int[][] rows = {{101, 1000, 51, 1000, 39, 2}, {0, 99, 51, 1000, 39, 3}, {100, 100, 51, 1000, 39, 4},
            {100, 100, 0, 49, 39, 5}, {100, 100, 50, 50, 39, 6}, {100, 100, 50, 50, 40, 7}};
        for (int[] r : rows) {
            shop.setLabel(1, r[0], r[1], r[2], r[3], r[4]);
            Check.due("14: refused", shop.bottle(0, 1, 1, 301), Shops.ILLEGAL);
            Check.due("14: reason", shop.count(4), r[5]);
        }
        Check.due("14: allowed", shop.bottle(0, 1, 1, 300), 300);
        Check.due("14: reason 0", shop.count(4), 0);
    }

    private static void bottleTakesAlong() {
        CiderShop shop = Shops.small();
        shop.setLabel(0, 0, 1000, 0, 1000, 1000);
        shop.press(0, 500, 0);
        shop.day();
        shop.bottle(0, 0, 5, 20);
        // of juice 298, sugar 29, acid 15, haze 10 and alcohol 1, a hundred takes 9, 5, 3 and 0 along
        int[] tank = {1000, 198, 20, 10, 7, 2, 1, 800};
        for (int what = 0; what < tank.length; what++) {
            Check.due("14: tank(0, " + what + ")", shop.tank(0, what), tank[what]);
        }
    }

    private static void day() {
        CiderShop shop = Shops.small();
        shop.buy(1, 333);
        shop.press(0, 500, 0);
        shop.press(0, 100, 1);
        Check.due("15: first", shop.day(), 1);
        Check.due("15: lot 0 of 400", shop.lot(0, 1), 399);
        Check.due("15: lot 1 of 333", shop.lot(1, 1), 333);
        int[] big = {1000, 298, 29, 15, 10, 2, 1, 700};
        int[] little = {1000, 60, 6, 3, 2, 0, 0, 940};
        for (int what = 0; what < 8; what++) {
            Check.due("15: tank 0 " + what, shop.tank(0, what), big[what]);
            Check.due("15: tank 1 " + what, shop.tank(1, what), little[what]);
        }
        Check.due("15: second", shop.day(), 2);
        Check.due("15: dried away", shop.account(2), 2);
        Check.due("15: settled again", shop.tank(0, 5), 4);
        Check.due("15: fermented again", shop.tank(0, 6), 2);
        Check.due("15: sugar", shop.tank(0, 2), 28);
        Check.due("15: days", shop.count(3), 2);
        Check.due("15: an empty shop", new CiderShop().day(), 1);
    }

    private static void reasonIsKept() {
        CiderShop shop = Shops.small();
        shop.sellPomace();
        shop.buy(9, 9);
        shop.addTank(0);
        shop.press(0, 0, 0);
        shop.why(0, 0);
        shop.daysTo(0, 0);
        shop.appendCharacter('x');
        shop.clearText();
        shop.count(99);
        Check.due("reason: what does not refuse leaves it", shop.count(4), 12);
        shop.undo();
        Check.due("reason: undo leaves it", shop.count(4), 12);
        shop.pour(0);
        Check.due("reason: the latest", shop.count(4), 1);
        shop.setRates(3, 40, 200, 50);
        Check.due("reason: an edit that changes nothing makes it 0", shop.count(4), 0);
    }
}
