/** Promises 16 to 18: the script. */
public final class ScriptTest {
    public static void main(String[] args) {
        appendCharacter();
        clearText();
        runEachCommand();
        readSpaces();
        readErrors();
        readNumbers();
        commandsFail();
        reasonOfScript();
        isOneEdit();
        failedScriptSavesNothing();
        longestText();
        Check.finish("ScriptTest");
    }

    private static void appendCharacter() {
        CiderShop shop = new CiderShop();
        Check.due("16: -1", shop.appendCharacter(-1), Shops.INVALID);
        Check.due("16: 256", shop.appendCharacter(256), Shops.INVALID);
        Check.due("16: 0", shop.appendCharacter(0), 1);
        Check.due("16: 255", shop.appendCharacter(255), 2);
        for (int length = 3; length <= 100; length++) {
            Check.due("16: length", shop.appendCharacter(' '), length);
        }
        Check.due("16: full", shop.appendCharacter(' '), Shops.FULL);
        Check.due("16: invalid goes ahead of full", shop.appendCharacter(256), Shops.INVALID);
        Check.due("16: length stays", shop.count(5), 100);
        Check.due("16: no edit", shop.count(6), 0);
    }

    private static void clearText() {
        CiderShop shop = new CiderShop();
        Check.due("17: empty", shop.clearText(), 0);
        Shops.type(shop, "day;;");
        Check.due("17: previous length", shop.clearText(), 5);
        Check.due("17: now empty", shop.count(5), 0);
        Check.due("17: no edit", shop.count(6), 0);
        Check.due("17: nothing is left", shop.runScript(), 0);
        Shops.type(shop, "day;");
        Check.due("17: a new text", shop.runScript(), 1);
    }

    private static void runEachCommand() {
        CiderShop shop = Shops.small();
        shop.setLabel(2, 0, 1000, 0, 1000, 1000);
        CiderShop other = Shops.small();
        other.setLabel(2, 0, 1000, 0, 1000, 1000);
        String text = "press 0 500 0;wet 7 1;move 0 9 1;day;rack 1 0;clean 1;bottle 0 2 3 20;";
        Check.due("18: commands", Shops.run(shop, text), 7);
        other.press(0, 500, 0);
        other.wet(7, 1);
        other.move(0, 9, 1);
        other.day();
        other.rack(1, 0);
        other.clean(1);
        other.bottle(0, 2, 3, 20);
        Check.due("18: done", Shops.state(shop), Shops.state(other));
        Check.due("18: bottles", shop.bottles(2, 3), 20);
        Check.due("18: the text is empty", shop.count(5), 0);
        Check.due("18: an empty text", shop.runScript(), 0);
        Check.due("18: it is an edit", shop.count(6), 6);
    }

    private static void readSpaces() {
        String[] right = {"", " ", "   day ;", "day;day;", "day; day ;  ", "move0 1 1;", "press0 1 0;day;",
            "  press  0  1  0  ;  "};
        int[] commands = {0, 0, 1, 2, 2, 1, 2, 1};
        for (int i = 0; i < right.length; i++) {
            CiderShop shop = Shops.small();
            shop.press(0, 100, 0);
            Check.due("18: " + right[i], Shops.run(shop, right[i]), right[i].startsWith("move") ? 1 : commands[i]);
        }
    }

    private static void readErrors() {
        Object[][] rows = {{";", 0}, {"day", 3}, {"day  ", 5}, {"day;;", 4}, {" ;", 1}, {"days;", 0}, {"da;", 0},
            {"daypress;", 0}, {"Day;", 0}, {"day;x", 4}, {"day 1;", 4}, {"day day;", 4}, {"1;", 0}, {" 0", 1},
            {"press", 5}, {"press ", 6}, {"press 0 1;", 9}, {"press 0 1 0 0;", 12}, {"press 0 1 0", 11},
            {"press;", 5}, {"press 0,1", 7}, {"press x", 6}, {"press 0 1 0x;", 11}, {"wet 0;", 5}, {"wet 0 0 0;", 8},
            {"move 0 0;", 8}, {"move 0 0 0 0;", 11}, {"rack 0;", 6}, {"rack 0 0 0;", 9}, {"clean;", 5},
            {"clean 0 0;", 8}, {"bottle 0 0 0;", 12}, {"bottle 0 0 0 0 0;", 15}, {"day;\tday;", 4},
            {"day\u00ff;", 3}, {"pour 0;", 0}, {"say;", 0}, {"bet 0 0;", 0}, {"dry;", 0}, {"rank 0 0;", 0},
            {"cleat 0;", 0}, {"sell;", 0}, {"day;day;1day;", 8}, {"wet 1 0;wet", 11},
            {"\u0000day;", 0}, {"clean -1;", 6}, {"`day;", 0}, {"{day;", 0}, {"clean :;", 6}, {"clean /;", 6}};
        for (Object[] row : rows) {
            CiderShop shop = Shops.small();
            String text = (String) row[0];
            Check.due("18: " + text, Shops.run(shop, text), -10 - (Integer) row[1]);
            Check.due("18: the text is kept", shop.count(5), text.length());
            Check.due("18: nothing is done", shop.count(3), 0);
            Check.due("18: nothing is saved", shop.count(6), 3);
        }
    }

    private static void readNumbers() {
        Object[][] rows = {{"clean 00;", -16}, {"clean 01;", -16}, {"clean 000000;", -16}, {"clean 123456;", -16},
            {"clean 0;", 1}, {"clean 1;", 1}, {"clean 10000;", -1000}, {"clean 99999;", -1000}, {"clean 2;", -1000},
            {"day;clean 05;", -20}, {"day 05;", -14}};
        for (Object[] row : rows) {
            CiderShop shop = Shops.small();
            Check.due("18: " + row[0], Shops.run(shop, (String) row[0]), (Integer) row[1]);
        }
        CiderShop shop = Shops.small();
        Check.due("18: five digits", Shops.run(shop, "press 0 10 0;wet 20000 1;"), -1001);
        shop.addTank(5000);
        Check.due("18: digits in their order", Shops.run(shop, "press 0 10 0;wet 12345 2;"), 2);
        Check.due("18: water", shop.account(1), 12345);
    }

    private static void commandsFail() {
        String before = Shops.state(Shops.small());
        String[] texts = {"press 8 1 0;", "day;press 0 1001 0;", "day;day;wet 5 0;",
            "press 0 900 0;press 0 1 0;clean 0;",
            "bottle 0 0 1 1;day;", "day;day;day;rack 0 1;", "move 0 1 1;", "press 0 500 0;day;clean 9;day;"};
        int[] numbers = {0, 1, 2, 2, 0, 3, 0, 2};
        int[] reasons = {0, 11, 12, 13, 1, 1, 7, 0};
        for (int i = 0; i < texts.length; i++) {
            CiderShop shop = Shops.small();
            Check.due("18: " + texts[i], Shops.run(shop, texts[i]), -1000 - numbers[i]);
            Check.due("18: reason", shop.count(4), reasons[i]);
            Check.due("18: nothing else changes", Shops.state(shop), before);
            Check.due("18: the text is kept", shop.count(5), texts[i].length());
            Check.due("18: nothing is saved", shop.count(6), 3);
            Check.due("18: the kept text fails again", shop.runScript(), -1000 - numbers[i]);
        }
    }

    private static void reasonOfScript() {
        CiderShop shop = Shops.small();
        shop.sellPomace();
        Check.due("18: an invalid command", Shops.run(shop, "press 0 10 0;clean 7;"), -1001);
        Check.due("18: leaves the reason of before", shop.count(4), 12);
        Check.due("18: no room", Shops.run(shop, "press 0 10 0;wet 20000 0;"), -1001);
        Check.due("18: leaves the reason of before", shop.count(4), 12);
        Check.due("18: an error in the text", Shops.run(shop, "day;clean;"), -19);
        Check.due("18: leaves the reason", shop.count(4), 12);
        Check.due("18: a refusal", Shops.run(shop, "day;rack 0 1;"), -1001);
        Check.due("18: gives its reason", shop.count(4), 1);
        Check.due("18: done", Shops.run(shop, ""), 0);
        Check.due("18: makes it 0", shop.count(4), 0);
    }

    private static void isOneEdit() {
        CiderShop shop = Shops.small();
        String before = Shops.state(shop);
        Check.due("18: three commands", Shops.run(shop, "press 0 100 0;day;day;"), 3);
        Check.due("18: one state", shop.count(6), 4);
        Check.due("18: undo", shop.undo(), 3);
        Check.due("18: as before", Shops.state(shop), before);
        Check.due("18: the text stays empty", shop.count(5), 0);
    }

    private static void failedScriptSavesNothing() {
        CiderShop shop = Shops.small();
        for (int i = 0; i < 6; i++) {
            shop.day();
        }
        Shops.run(shop, "day;day;day;clean 9;");
        for (int left = 5; left >= 0; left--) {
            Check.due("18: undo", shop.undo(), left);
            Check.due("18: days", shop.count(3), left);
        }
    }

    private static void longestText() {
        CiderShop shop = new CiderShop();
        StringBuilder text = new StringBuilder();
        for (int i = 0; i < 25; i++) {
            text.append("day;");
        }
        Check.due("18: 25 commands", Shops.run(shop, text.toString()), 25);
        Check.due("18: 25 days", shop.count(3), 25);
        text.setCharAt(99, ' ');
        Check.due("18: the end is missing", Shops.run(shop, text.toString()), -110);
    }
}
