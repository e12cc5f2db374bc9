/** The part "Script" of the description, and promises 16 to 18, at their edges: each sentence has a test. */
public final class ScriptEdgesTest {
    private static final String[] WORDS = {"press", "wet", "move", "rack", "clean", "bottle", "day"};
    private static final int[] NUMBERS = {3, 2, 3, 2, 1, 4, 0};

    public static void main(String[] args) {
        textOfAHundred();
        textIsEmptyAgain();
        everyCharacterAlone();
        everyCharacterBehindAWord();
        everyCharacterAheadOfANumber();
        everyCharacterBehindANumber();
        everyCharacterBehindACommand();
        perhapsEmpty();
        numbersOfEachCommand();
        wordsInOneOrder();
        otherWords();
        textEndsTooEarly();
        spaces();
        spacesThatAreNeeded();
        numbersOfFiveDigits();
        readBeforeAnythingIsDone();
        firstErrorCounts();
        numbersAreLookedAtLater();
        commandsSeeWhatCameBefore();
        firstCommandThatFails();
        lastCommandThatFails();
        reasonOfTheCommand();
        failedScriptKeepsAll();
        sixStatesAndAScript();
        Check.finish("ScriptEdgesTest");
    }

    private static int run(String text) {
        return Shops.run(Shops.small(), text);
    }

    private static int errorAt(int position) {
        return -10 - position;
    }

    private static boolean isLetter(int c) {
        return c >= 97 && c <= 122;
    }

    private static boolean isDigit(int c) {
        return c >= 48 && c <= 57;
    }

    /** "a text of at most 100 characters .. CAPACITY_EXCEEDED if the text has 100 characters" */
    private static void textOfAHundred() {
        CiderShop shop = new CiderShop();
        for (int length = 1; length <= 100; length++) {
            Check.due("16: the new length", shop.appendCharacter("day;".charAt((length - 1) % 4)), length);
        }
        Check.due("16: one too many", shop.appendCharacter(';'), Shops.FULL);
        Check.due("16: and again", shop.appendCharacter(';'), Shops.FULL);
        Check.due("16: the length", shop.count(5), 100);
        Check.due("18: all of it is read", shop.runScript(), 25);
        Check.due("18: and done", shop.count(3), 25);
        Check.due("16: there is room again", shop.appendCharacter(';'), 1);
        Check.due("17: the previous length", shop.clearText(), 1);
        for (int length = 1; length <= 100; length++) {
            shop.appendCharacter(255);
        }
        Check.due("17: of a full text", shop.clearText(), 100);
        Check.due("17: of an empty text", shop.clearText(), 0);
        Check.due("16: and from 1 on", shop.appendCharacter(0), 1);
    }

    /** "Makes the text empty." "The text becomes empty." What was there before is no part of what comes then. */
    private static void textIsEmptyAgain() {
        CiderShop shop = new CiderShop();
        Shops.type(shop, "day;day;day;");
        shop.clearText();
        Shops.type(shop, "day;");
        Check.due("17: the new text alone", shop.runScript(), 1);
        Check.due("18: the text is empty", shop.count(5), 0);
        Check.due("18: it is not done twice", shop.runScript(), 0);
        Shops.type(shop, "day");
        Check.due("18: a shorter one", shop.runScript(), errorAt(3));
        Check.due("18: the text is kept", shop.appendCharacter(';'), 4);
        Check.due("18: and goes on", shop.runScript(), 1);
        Check.due("18: days", shop.count(3), 2);
    }

    /** Where a command must come, no single character but the space is allowed. */
    private static void everyCharacterAlone() {
        for (int c = 0; c <= 255; c++) {
            Check.due("18: alone, " + c, run("" + (char) c), c == ' ' ? 0 : errorAt(0));
            Check.due("18: ahead of a word, " + c, run((char) c + "day;"), c == ' ' ? 1 : errorAt(0));
        }
    }

    /** Where ";" must come behind a word: letters make another word of it. */
    private static void everyCharacterBehindAWord() {
        for (int c = 0; c <= 255; c++) {
            int due = errorAt(3);
            if (c == ' ') {
                due = 1;
            } else if (c == ';') {
                due = errorAt(4);
            } else if (isLetter(c)) {
                due = errorAt(0);
            }
            Check.due("18: behind a word, " + c, run("day" + (char) c + ";"), due);
        }
    }

    /** Where a number must come: digits make another number of it. */
    private static void everyCharacterAheadOfANumber() {
        for (int c = 0; c <= 255; c++) {
            int due = errorAt(5);
            if (c == ' ') {
                due = 1;
            } else if (isLetter(c)) {
                due = errorAt(0);
            } else if (isDigit(c) && c != '0') {
                due = -1000;
            }
            Check.due("18: ahead of a number, " + c, run("clean" + (char) c + "0;"), due);
        }
    }

    /** Where ";" must come behind a number: a digit behind 0 makes no number. */
    private static void everyCharacterBehindANumber() {
        for (int c = 0; c <= 255; c++) {
            int due = errorAt(6);
            if (c == ' ') {
                due = 1;
            } else if (c == ';') {
                due = errorAt(7);
            } else if (isDigit(c)) {
                due = errorAt(5);
            }
            Check.due("18: behind a number, " + c, run("clean0" + (char) c + ";"), due);
        }
    }

    /** Behind ";" another command or the end must come. */
    private static void everyCharacterBehindACommand() {
        for (int c = 0; c <= 255; c++) {
            Check.due("18: behind a command, " + c, run("day;" + (char) c), c == ' ' ? 1 : errorAt(4));
        }
    }

    /** "a sequence of commands, perhaps empty" */
    private static void perhapsEmpty() {
        StringBuilder spaces = new StringBuilder();
        for (int i = 0; i < 100; i++) {
            CiderShop shop = Shops.small();
            shop.pour(0);
            Check.due("18: " + i + " spaces", Shops.run(shop, spaces.toString()), 0);
            Check.due("18: they are gone", shop.count(5), 0);
            Check.due("18: it is an edit", shop.count(6), 4);
            Check.due("18: without a reason", shop.count(4), 0);
            spaces.append(' ');
        }
        Check.due("18: 100 spaces", run(spaces.toString()), 0);
    }

    /** Each command has its numbers and ends with ";": one too few or too many is not allowed. */
    private static void numbersOfEachCommand() {
        for (int word = 0; word < WORDS.length; word++) {
            StringBuilder text = new StringBuilder(WORDS[word]);
            for (int numbers = 0; numbers <= 5; numbers++) {
                String closed = text + ";";
                int due = -1000;
                if (numbers < NUMBERS[word]) {
                    due = errorAt(closed.length() - 1);
                } else if (numbers > NUMBERS[word]) {
                    due = errorAt(WORDS[word].length() + 6 * NUMBERS[word] + 1);
                } else if (WORDS[word].equals("day")) {
                    due = 1;
                }
                Check.due("18: " + closed, run(closed), due);
                text.append(" 99999");
            }
        }
    }

    /** The numbers of each command stand in the order that is told: LOT MASS TANK, and so on. */
    private static void wordsInOneOrder() {
        String[] texts = {"press 0 10 1;", "wet 9 1;", "move 0 5 1;", "rack 0 1;", "clean 1;", "bottle 0 2 3 4;", "day;"};
        for (int i = 0; i < texts.length; i++) {
            CiderShop shop = Shops.small();
            shop.setLabel(2, 0, 1000, 0, 1000, 1000);
            shop.press(0, 100, 0);
            CiderShop other = Shops.small();
            other.setLabel(2, 0, 1000, 0, 1000, 1000);
            other.press(0, 100, 0);
            Check.due("18: " + texts[i], Shops.run(shop, texts[i]), 1);
            int[] answers = {i == 0 ? other.press(0, 10, 1) : 0, i == 1 ? other.wet(9, 1) : 0,
                i == 2 ? other.move(0, 5, 1) : 0, i == 3 ? other.rack(0, 1) : 0, i == 4 ? other.clean(1) : 0,
                i == 5 ? other.bottle(0, 2, 3, 4) : 0, i == 6 ? other.day() : 0};
            Check.due("18: the call goes", answers[i] >= 0 ? 1 : 0, 1);
            Check.due("18: as by a call of " + texts[i], Shops.whole(shop), Shops.whole(other));
        }
    }

    /** "Words are longest sequences of letters a to z": no part of one, nor more than one, is a word of a command. */
    private static void otherWords() {
        String[] others = {"pour", "buy", "undo", "sellpomace", "sell", "addtank", "blend", "script", "text", "a", "z",
            "q", "dayday", "wetwet", "DAY", "Wet", "daY", "pressday"};
        for (String other : others) {
            Check.due("18: " + other, run(other + " 0 0;"), errorAt(0));
            Check.due("18: day;" + other, run("day;" + other + ";"), errorAt(4));
        }
        for (String word : WORDS) {
            for (int cut = 1; cut < word.length(); cut++) {
                Check.due("18: the head of " + word, run(word.substring(0, cut) + ";"), errorAt(0));
                Check.due("18: the tail of " + word, run(word.substring(cut) + ";"), errorAt(0));
                String changed = word.substring(0, cut) + "x" + word.substring(cut + 1);
                Check.due("18: " + changed, run(" " + changed + ";"), errorAt(1));
            }
            Check.due("18: more than " + word, run(word + "s;"), errorAt(0));
            Check.due("18: parted " + word, run(word.charAt(0) + " " + word.substring(1) + ";"), errorAt(0));
        }
    }

    /** "If the text ends where another token must come, it is the length of the text", of its spaces, too. */
    private static void textEndsTooEarly() {
        for (int word = 0; word < WORDS.length; word++) {
            StringBuilder text = new StringBuilder("day;" + WORDS[word]);
            for (int numbers = 0; numbers <= NUMBERS[word]; numbers++) {
                Check.due("18: " + text, run(text.toString()), errorAt(text.length()));
                text.append("   ");
                Check.due("18: " + text, run(text.toString()), errorAt(text.length()));
                text.append("7");
            }
        }
        StringBuilder full = new StringBuilder("day");
        while (full.length() < 100) {
            full.append(' ');
        }
        Check.due("18: a full text", run(full.toString()), errorAt(100));
    }

    /** "Spaces (code 32) may stand ahead of, between and behind tokens" */
    private static void spaces() {
        String[] texts = {" day;", "day ;", "day; ", "   day   ;   ", "day;   day;", " day ; day ; ", "press 0 10 0;",
            "press   0   10   0   ;", "   press 0 10 0;", "clean 1 ;clean 1;", "day;press 0 10 0   "};
        int[] dues = {1, 1, 1, 1, 2, 2, 1, 1, 1, 2, errorAt(19)};
        for (int i = 0; i < texts.length; i++) {
            Check.due("18: spaces in " + texts[i], run(texts[i]), dues[i]);
        }
    }

    /** "they are needed only between two numbers" */
    private static void spacesThatAreNeeded() {
        Check.due("18: none needed", run("press0 10 0;wet0 1;move0 1 1;rack0 1;clean0;day;day;clean0;"), 8);
        Check.due("18: none between numbers", run("press0100;"), errorAt(5));
        Check.due("18: none between two of three", run("press0 100;"), errorAt(10));
        Check.due("18: none between two of two", run("rack01;"), errorAt(4));
        Check.due("18: one number of both", run("rack10;"), errorAt(6));
        Check.due("18: a word behind a number", run("clean0day;"), errorAt(6));
        Check.due("18: a word behind a number, ahead of a number", run("rack0rack1;"), errorAt(5));
    }

    /** "longest sequences of digits, which have at most 5 digits and do not begin with 0 unless they are .. 0" */
    private static void numbersOfFiveDigits() {
        String[] numbers = {"0", "1", "9", "10", "99", "100", "999", "1000", "9999", "10000", "20000", "20001", "99999"};
        int[] waters = {1, 1, 1, 1, 1, 1, 1, 1, 1, 1, -1000, -1000, -1000};
        for (int i = 0; i < numbers.length; i++) {
            CiderShop shop = Shops.small();
            shop.addTank(5000);
            shop.press(0, 10, 0);
            Check.due("18: number " + numbers[i], Shops.run(shop, "wet " + numbers[i] + " 2;"), waters[i]);
            if (waters[i] == 1) {
                Check.due("18: its worth", shop.account(1), Integer.parseInt(numbers[i]));
            }
        }
        String[] none = {"00", "01", "09", "000", "00000", "012345", "000000", "100000", "123456", "999999",
            "4294967296", "18446744073709551616"};
        for (String number : none) {
            Check.due("18: no number " + number, run("wet " + number + " 0;"), errorAt(4));
            Check.due("18: nor as the last one, " + number, run("wet 0 " + number + ";"), errorAt(6));
            Check.due("18: nor where none must come, " + number, run("day " + number + ";"), errorAt(4));
            Check.due("18: nor ahead of all, " + number, run(number + ";"), errorAt(0));
        }
    }

    /** "The text is read from left to right, before anything is done" */
    private static void readBeforeAnythingIsDone() {
        String[] texts = {"day;x", "day;clean 9;x", "clean 9;clean", "press 0 1001 0;clean 00;", "rack 0 1;;"};
        int[] positions = {4, 12, 13, 21, 9};
        for (int i = 0; i < texts.length; i++) {
            CiderShop shop = Shops.small();
            shop.sellPomace();
            String before = Shops.state(shop);
            Check.due("18: " + texts[i], Shops.run(shop, texts[i]), errorAt(positions[i]));
            Check.due("18: nothing is done", Shops.state(shop), before);
            Check.due("18: nothing is saved", shop.count(6), 3);
            Check.due("18: the text is kept", shop.count(5), texts[i].length());
            Check.due("18: the reason stays", shop.count(4), 12);
            Check.due("18: the same again", shop.runScript(), errorAt(positions[i]));
        }
    }

    /** "the first character of the first token that is not allowed where it stands" */
    private static void firstErrorCounts() {
        Check.due("18: two errors", run("day 00 x;"), errorAt(4));
        Check.due("18: a word, then a number", run("dry 00;"), errorAt(0));
        Check.due("18: a number too many, then a word", run("clean 0 0 dry;"), errorAt(8));
        Check.due("18: in the second command", run("day;  dry 00;;"), errorAt(6));
        Check.due("18: a long word's first character", run("day;daydaydayday"), errorAt(4));
        Check.due("18: a long number's first character", run("wet  1234567 0;"), errorAt(5));
    }

    /** "Numbers are only looked at when the commands are done, as by calls" */
    private static void numbersAreLookedAtLater() {
        String[] texts = {"press 8 1 0;", "press 0 0 0;", "press 0 20001 0;", "press 0 1 2;", "wet 20001 0;", "wet 1 2;",
            "move 0 0 1;", "move 0 5001 1;", "move 0 1 0;", "move 2 1 0;", "rack 1 1;", "rack 0 2;", "clean 2;",
            "bottle 2 0 1 1;", "bottle 0 4 1 1;", "bottle 0 0 0 1;", "bottle 0 0 11 1;", "bottle 0 0 1 0;",
            "bottle 0 0 1 5001;", "clean 65536;", "clean 99999;"};
        for (String text : texts) {
            CiderShop shop = Shops.small();
            shop.sellPomace();
            Check.due("18: " + text, Shops.run(shop, text), -1000);
            Check.due("18: no reason of " + text, shop.count(4), 12);
            Check.due("18: behind a day, " + text, Shops.run(shop, "day;" + text), -1001);
            Check.due("18: no day passed", shop.count(3), 0);
        }
    }

    /** "Does the commands of the text in their order": each on what the ones before it left. */
    private static void commandsSeeWhatCameBefore() {
        Check.due("18: press, then rack", run("press 0 10 0;rack 0 1;"), 2);
        Check.due("18: rack, then press", run("rack 0 1;press 0 10 0;"), -1000);
        Check.due("18: just the lot", run("press 0 600 0;press 0 400 0;"), 2);
        Check.due("18: more than the lot", run("press 0 600 0;press 0 401 0;"), -1001);
        Check.due("18: a day dries it", run("day;press 0 1000 0;"), -1001);
        Check.due("18: to what is left", run("day;press 0 997 0;"), 2);
        Check.due("18: just the room", run("press 0 1000 0;wet 1200 0;"), 2);
        Check.due("18: more than the room", run("press 0 1000 0;wet 1204 0;"), -1001);
        Check.due("18: just the juice", run("press 0 100 0;move 0 30 1;move 0 30 1;clean 0;"), 4);
        Check.due("18: more than the juice", run("press 0 100 0;move 0 30 1;move 0 31 1;"), -1002);
        Check.due("18: haze, until days pass", run("press 0 500 0;bottle 0 0 1 1;"), -1001);
        Check.due("18: then no more", run("press 0 500 0;day;day;day;day;bottle 0 0 1 1;"), 6);
    }

    /** "-1000 minus the number of the first command, from 0, that returns an error code when its turn comes" */
    private static void firstCommandThatFails() {
        Check.due("18: the first", run("clean 9;clean 9;"), -1000);
        Check.due("18: the second", run("day;clean 9;rack 0 1;"), -1001);
        CiderShop shop = Shops.small();
        Check.due("18: the first one's reason", Shops.run(shop, "day;pour;"), errorAt(4));
        Check.due("18: two that are refused", Shops.run(shop, "move 0 1 1;wet 1 0;"), -1000);
        Check.due("18: the reason of the first", shop.count(4), 7);
        Check.due("18: one without a reason ahead", Shops.run(shop, "clean 9;wet 1 0;"), -1000);
        Check.due("18: leaves the old one", shop.count(4), 7);
        Check.due("18: one behind a good one", Shops.run(shop, "clean 0;wet 1 0;"), -1001);
        Check.due("18: has its own", shop.count(4), 12);
    }

    private static void lastCommandThatFails() {
        StringBuilder days = new StringBuilder();
        for (int number = 0; number <= 23; number++) {
            CiderShop shop = Shops.small();
            Check.due("18: number " + number, Shops.run(shop, days + "clean9;"), -1000 - number);
            Check.due("18: no day passed", shop.count(3), 0);
            days.append("day;");
        }
    }

    /** "(then the reason is the one of this command, or stays as it was before the call if it has none)" */
    private static void reasonOfTheCommand() {
        String[] texts = {"press 0 999 1;", "wet 1 1;", "move 0 301 1;", "rack 1 0;", "clean 0;", "bottle 1 0 1 1;",
            "bottle 0 1 1 1;", "bottle 0 2 1 1;", "bottle 0 3 1 1;", "bottle 0 0 1 1;", "clean 2;", "rack 0 2;"};
        int[] reasons = {11, 12, 7, 1, 13, 1, 2, 3, 5, 6, 0, 0};
        for (int i = 0; i < texts.length; i++) {
            CiderShop shop = Shops.small();
            shop.press(0, 500, 0);
            shop.sellPomace();
            shop.setLabel(1, 101, 1000, 0, 1000, 20);
            shop.setLabel(2, 0, 99, 0, 1000, 20);
            shop.setLabel(3, 0, 1000, 0, 49, 20);
            Check.due("18: " + texts[i], Shops.run(shop, texts[i]), -1000);
            Check.due("18: reason of " + texts[i], shop.count(4), reasons[i]);
        }
        CiderShop shop = Shops.small();
        shop.press(0, 500, 0);
        shop.setLabel(1, 0, 1000, 51, 1000, 1000);
        shop.setLabel(2, 0, 1000, 0, 1000, 1000);
        Check.due("18: acid", Shops.run(shop, "day;clean 1;bottle 0 1 1 1;"), -1002);
        Check.due("18: reason of acid", shop.count(4), 4);
        Check.due("18: too many bottles", Shops.run(shop, "bottle 0 2 1 301;"), -1000);
        Check.due("18: reason of too many", shop.count(4), 7);
    }

    /** "in both cases nothing else changes, and the text is kept" */
    private static void failedScriptKeepsAll() {
        CiderShop shop = Shops.busy();
        shop.pour(0);
        String before = Shops.whole(shop);
        String text = "press 0 10 0;wet 5 0;move 1 9 0;day;rack 1 0;clean 1;bottle 0 1 2 3;clean 7;";
        Check.due("18: the eighth fails", Shops.run(shop, text), -1007);
        Check.due("18: the text is kept", shop.count(5), text.length());
        Check.due("18: and fails again", shop.runScript(), -1007);
        Check.due("18: the length", shop.clearText(), text.length());
        Check.due("18: nothing changed", Shops.whole(shop), before);
        Check.due("18: undo goes back behind the one before", shop.undo(), 5);
        Check.due("18: which was rack", shop.tank(0, 1), 298);
    }

    /** "This is one edit." */
    private static void sixStatesAndAScript() {
        CiderShop shop = new CiderShop();
        for (int i = 0; i < 6; i++) {
            shop.day();
        }
        Check.due("18: more commands than states", Shops.run(shop, "day;day;day;day;day;day;day;day;"), 8);
        Check.due("18: still six", shop.count(6), 6);
        Check.due("18: days", shop.count(3), 14);
        int[] days = {6, 5, 4, 3, 2, 1};
        for (int i = 0; i < days.length; i++) {
            Check.due("18: undo", shop.undo(), 5 - i);
            Check.due("18: days", shop.count(3), days[i]);
        }
        Check.due("18: the oldest was discarded", shop.undo(), Shops.ILLEGAL);
        Check.due("18: the text does not come back", shop.count(5), 0);
    }
}
