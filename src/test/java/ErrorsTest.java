/**
 * The part "Errors" of the description, and what it tells of the reason: a refused call changes nothing but the
 * reason, the error that is named first goes ahead, and NONE goes behind all.
 */
public final class ErrorsTest {
    public static void main(String[] args) {
        refusedCallsChangeNothing();
        refusedCallsLeaveLabelsAndText();
        invalidGoesAheadOfFull();
        invalidGoesAheadOfIllegal();
        illegalGoesAheadOfFull();
        noneGoesBehindInvalid();
        noneWithoutJuice();
        reasonAtFirst();
        reasonsOfRefusals();
        editsMakeTheReasonNothing();
        editsThatChangeNothing();
        otherCallsLeaveTheReason();
        otherErrorsLeaveTheReason();
        lookingSavesNothing();
        Check.finish("ErrorsTest");
    }

    /**
     * All eight lots, the first great, the others of 50; all six tanks: 0 full, 1 with 300 of juice, 2 with lees alone,
     * the others empty, 5 the least; no heap, since all pomace was sold last; the reason 13; a text of two commands.
     */
    private static CiderShop crowded() {
        CiderShop shop = new CiderShop();
        shop.setRates(3, 100, 500, 50);
        for (int lot = 0; lot < 8; lot++) {
            shop.buy(lot % 6, lot == 0 ? 20000 : 50);
        }
        int[] rooms = {100, 1000, 1000, 1000, 1000, 1};
        for (int room : rooms) {
            shop.addTank(room);
        }
        shop.press(0, 200, 2);
        shop.day();
        shop.pour(2);
        shop.press(0, 167, 0);
        shop.press(0, 500, 1);
        shop.sellPomace();
        Shops.type(shop, "day;day;");
        shop.clean(0);
        return shop;
    }

    private interface Refused {
        int by(CiderShop shop);
    }

    private static void dueRefusal(String name, int error, int reason, Refused call) {
        CiderShop shop = crowded();
        String before = Shops.state(shop);
        Check.due(name, call.by(shop), error);
        Check.due(name + ": reason", shop.count(4), reason);
        Check.due(name + ": nothing changes", Shops.state(shop), before);
        Check.due(name + ": the text", shop.count(5), 8);
        Check.due(name + ": saved", shop.count(6), 6);
        shop.undo();
        Check.due(name + ": the pomace comes back", shop.count(2), 347);
    }

    private static void dueInvalid(String name, Refused call) {
        dueRefusal(name, Shops.INVALID, 13, call);
    }

    private static void dueFull(String name, Refused call) {
        dueRefusal(name, Shops.FULL, 13, call);
    }

    private static void dueIllegal(String name, int reason, Refused call) {
        dueRefusal(name, Shops.ILLEGAL, reason, call);
    }

    /** "A method that returns an error code changes nothing but the reason." */
    private static void refusedCallsChangeNothing() {
        dueInvalid("setVariety", s -> s.setVariety(6, 300, 1, 1));
        dueInvalid("setVariety acid", s -> s.setVariety(0, 300, 1, 101));
        dueInvalid("setRates", s -> s.setRates(0, 0, 0, 301));
        dueInvalid("setLabel", s -> s.setLabel(0, 1, 2, 3, 4, 1001));
        dueInvalid("buy", s -> s.buy(0, 0));
        dueFull("buy", s -> s.buy(0, 1));
        dueInvalid("addTank", s -> s.addTank(5001));
        dueFull("addTank", s -> s.addTank(1));
        dueInvalid("press", s -> s.press(0, 10, 6));
        dueIllegal("press", 11, s -> s.press(1, 51, 1));
        dueFull("press", s -> s.press(0, 10, 0));
        dueFull("press of 2 into 1", s -> s.press(0, 4, 5));
        dueInvalid("wet", s -> s.wet(20001, 1));
        dueIllegal("wet", 12, s -> s.wet(10, 1));
        dueIllegal("sellPomace", 12, s -> s.sellPomace());
        dueInvalid("move", s -> s.move(1, 10, 1));
        dueIllegal("move", 7, s -> s.move(1, 301, 3));
        dueIllegal("move of none", 7, s -> s.move(3, 1, 4));
        dueFull("move", s -> s.move(1, 10, 0));
        dueFull("move of 2 into 1", s -> s.move(1, 2, 5));
        dueInvalid("rack", s -> s.rack(1, 6));
        dueIllegal("rack", 1, s -> s.rack(2, 3));
        dueFull("rack", s -> s.rack(1, 0));
        dueInvalid("clean", s -> s.clean(-1));
        dueIllegal("clean", 13, s -> s.clean(1));
        dueInvalid("pour", s -> s.pour(6));
        dueIllegal("pour", 1, s -> s.pour(2));
        dueInvalid("bottle", s -> s.bottle(1, 0, 0, 1));
        dueIllegal("bottle of none", 1, s -> s.bottle(2, 0, 1, 1));
        dueIllegal("bottle of haze", 6, s -> s.bottle(1, 0, 1, 1));
        dueInvalid("appendCharacter", s -> s.appendCharacter(256));
    }

    /** The rest of what a refused call must leave: what the labels allow, and the text itself. */
    private static void refusedCallsLeaveLabelsAndText() {
        CiderShop shop = crowded();
        for (int label = 0; label < 4; label++) {
            shop.setLabel(label, 1, 2, 3, 4, -1);
            shop.setLabel(label, 1, 2, 3, 1001, 5);
            shop.setLabel(label, 0, 1001, 0, 1000, 20);
            shop.setLabel(label, -1, 1000, 0, 1000, 20);
            shop.setLabel(label, 0, 1000, -1, 1000, 20);
        }
        shop.appendCharacter(-1);
        shop.appendCharacter(256);
        for (int label = 0; label < 4; label++) {
            Check.due("a label is left", shop.setLabel(label, 0, 1000, 0, 1000, 20), 0);
        }
        int days = shop.count(3);
        Check.due("the text is left", shop.runScript(), 2);
        Check.due("it lets two days pass", shop.count(3), days + 2);
    }

    /** "If several error codes apply, the one that is named first in the description of the method is returned" */
    private static void invalidGoesAheadOfFull() {
        dueInvalid("a ninth lot of no variety", s -> s.buy(6, 1));
        dueInvalid("a ninth lot of no mass", s -> s.buy(0, 0));
        dueInvalid("a ninth lot too great", s -> s.buy(0, 20001));
        dueInvalid("a seventh tank of no room", s -> s.addTank(0));
        dueInvalid("a seventh tank too great", s -> s.addTank(5001));
        dueInvalid("full: press of no lot", s -> s.press(8, 10, 0));
        dueInvalid("full: press too much", s -> s.press(0, 20001, 0));
        dueInvalid("full: move of none", s -> s.move(1, 0, 0));
        dueInvalid("full: move too much", s -> s.move(1, 5001, 0));
        dueInvalid("full: move to itself", s -> s.move(0, 10, 0));
        dueInvalid("full: rack to itself", s -> s.rack(0, 0));
        CiderShop shop = crowded();
        shop.press(0, 10, 3);
        Check.due("full: wet with too much", shop.wet(20001, 0), Shops.INVALID);
        Check.due("full: wet with less than none", shop.wet(-1, 0), Shops.INVALID);
        for (int length = 9; length <= 100; length++) {
            shop.appendCharacter(' ');
        }
        Check.due("a full text", shop.appendCharacter(256), Shops.INVALID);
        Check.due("a full text", shop.appendCharacter(-1), Shops.INVALID);
        Check.due("a full text", shop.appendCharacter(0), Shops.FULL);
    }

    private static void invalidGoesAheadOfIllegal() {
        dueInvalid("lot has less: mass too great", s -> s.press(1, 20001, 1));
        dueInvalid("lot has less: no tank", s -> s.press(1, 51, 6));
        dueInvalid("no heap: water too great", s -> s.wet(20001, 1));
        dueInvalid("no heap: water below 0", s -> s.wet(-1, 1));
        dueInvalid("no heap: no tank", s -> s.wet(1, 6));
        dueInvalid("no juice: amount 0", s -> s.move(3, 0, 4));
        dueInvalid("no juice: amount too great", s -> s.move(3, 5001, 4));
        dueInvalid("no juice: move to itself", s -> s.move(3, 1, 3));
        dueInvalid("no juice: move to no tank", s -> s.move(3, 1, 6));
        dueInvalid("no juice: rack to itself", s -> s.rack(3, 3));
        dueInvalid("no juice: rack to no tank", s -> s.rack(3, 6));
        dueInvalid("no juice: no label", s -> s.bottle(3, 4, 1, 1));
        dueInvalid("no juice: size 0", s -> s.bottle(3, 0, 0, 1));
        dueInvalid("no juice: size 11", s -> s.bottle(3, 0, 11, 1));
        dueInvalid("no juice: count 0", s -> s.bottle(3, 0, 1, 0));
        dueInvalid("no juice: count 5001", s -> s.bottle(3, 0, 1, 5001));
    }

    private static void illegalGoesAheadOfFull() {
        dueIllegal("full: the lot has less", 11, s -> s.press(1, 51, 0));
        dueIllegal("full: no heap", 12, s -> s.wet(20000, 0));
        dueIllegal("full: move of none", 7, s -> s.move(3, 1, 0));
        dueIllegal("full: move of too much", 7, s -> s.move(1, 301, 0));
        dueIllegal("full: rack of none", 1, s -> s.rack(3, 0));
    }

    /** "NONE is no error, and it is returned only if no error code applies." */
    private static void noneGoesBehindInvalid() {
        CiderShop shop = crowded();
        Check.due("none: share", shop.share(3, 0), Shops.NONE);
        Check.due("none: share of -1", shop.share(3, -1), Shops.INVALID);
        Check.due("none: share of 4", shop.share(3, 4), Shops.INVALID);
        Check.due("none: daysTo", shop.daysTo(3, 0), Shops.NONE);
        Check.due("none: daysTo label -1", shop.daysTo(3, -1), Shops.INVALID);
        Check.due("none: daysTo label 4", shop.daysTo(3, 4), Shops.INVALID);
        Check.due("none: blendFor", shop.blendFor(3, 4, 0), Shops.NONE);
        Check.due("none: blendFor the same", shop.blendFor(3, 3, 0), Shops.INVALID);
        Check.due("none: blendFor label -1", shop.blendFor(3, 4, -1), Shops.INVALID);
        Check.due("none: blendFor label 4", shop.blendFor(3, 4, 4), Shops.INVALID);
        Check.due("none: blendFor from 6", shop.blendFor(6, 4, 0), Shops.INVALID);
        Check.due("none: blendFor to 6", shop.blendFor(3, 6, 0), Shops.INVALID);
        Check.due("none: the reason stays", shop.count(4), 13);
    }

    /** "NONE if there is no juice": also where there are lees, and not where there is a juice of 1. */
    private static void noneWithoutJuice() {
        CiderShop shop = crowded();
        shop.press(0, 2, 5);
        for (int what = 0; what < 4; what++) {
            Check.due("share of a tank with lees", shop.share(2, what), Shops.NONE);
            Check.due("share of an empty tank", shop.share(3, what), Shops.NONE);
            Check.due("share of a juice of 1", shop.share(5, what), 0);
        }
    }

    /** "The latest reason is kept (0 at first)" */
    private static void reasonAtFirst() {
        CiderShop shop = new CiderShop();
        Check.due("reason at first", shop.count(4), 0);
        shop.undo();
        shop.press(0, 1, 0);
        Check.due("reason without a refusal that tells one", shop.count(4), 0);
        shop.sellPomace();
        Check.due("reason", shop.count(4), 12);
        Check.due("reason: of another shop", new CiderShop().count(4), 0);
    }

    /** "What other calls refuse with ILLEGAL_STATE has the reasons that they tell": one after the other. */
    private static void reasonsOfRefusals() {
        CiderShop shop = crowded();
        int[][] rows = {{shop.press(1, 51, 1), shop.count(4), 11}, {shop.wet(1, 1), shop.count(4), 12},
            {shop.move(1, 301, 3), shop.count(4), 7}, {shop.sellPomace(), shop.count(4), 12},
            {shop.rack(3, 4), shop.count(4), 1}, {shop.clean(1), shop.count(4), 13}, {shop.pour(3), shop.count(4), 1},
            {shop.bottle(1, 0, 1, 1), shop.count(4), 6}, {shop.move(3, 1, 4), shop.count(4), 7}};
        for (int[] r : rows) {
            Check.due("refusal", r[0], Shops.ILLEGAL);
            Check.due("its reason", r[1], r[2]);
        }
    }

    /** "a call that returns no error makes it 0, if it is an edit" */
    private static void editsMakeTheReasonNothing() {
        for (int kind = 0; kind < Shops.EDITS; kind++) {
            CiderShop shop = Shops.busy();
            shop.clean(1);
            Check.due("edit " + kind + ": the reason before it", shop.count(4), 13);
            Check.due("edit " + kind, Shops.edit(shop, kind) >= 0 ? 1 : 0, 1);
            Check.due("edit " + kind + ": the reason", shop.count(4), 0);
        }
    }

    /** The edits are "the calls .. that return no error": also those that find all as it should be already. */
    private static void editsThatChangeNothing() {
        Refused[] edits = {s -> s.setVariety(0, 600, 100, 50), s -> s.setRates(3, 100, 500, 50),
            s -> s.setLabel(0, 0, 1000, 0, 1000, 20), s -> s.clean(3), s -> {
                s.clearText();
                return s.runScript();
            }};
        int[] answers = {600, 0, 0, 0, 0};
        for (int i = 0; i < edits.length; i++) {
            CiderShop shop = crowded();
            String before = Shops.state(crowded());
            Check.due("idle edit " + i, edits[i].by(shop), answers[i]);
            Check.due("idle edit: the reason", shop.count(4), 0);
            Check.due("idle edit: the state", Shops.state(shop), before);
            Check.due("idle edit: undo", shop.undo(), 5);
            Check.due("idle edit: nothing comes back", Shops.state(shop), before);
        }
    }

    /** "other calls that do not refuse with ILLEGAL_STATE leave it" */
    private static void otherCallsLeaveTheReason() {
        Refused[] calls = {s -> s.appendCharacter('x'), s -> s.clearText(), s -> s.count(4), s -> s.lot(0, 1),
            s -> s.variety(0, 0), s -> s.tank(0, 1), s -> s.share(0, 0), s -> s.share(3, 0), s -> s.why(0, 0),
            s -> s.why(3, 0), s -> s.account(0), s -> s.bottles(0, 0), s -> s.daysTo(1, 0), s -> s.daysTo(3, 0),
            s -> s.blendFor(1, 3, 0), s -> s.blendFor(3, 4, 0), s -> s.undo()};
        for (int i = 0; i < calls.length; i++) {
            CiderShop shop = crowded();
            calls[i].by(shop);
            Check.due("other call " + i + ": the reason", shop.count(4), 13);
        }
        CiderShop shop = crowded();
        for (int i = 0; i < 6; i++) {
            shop.undo();
        }
        shop.pour(3);
        Check.due("undo: refused", shop.undo(), Shops.ILLEGAL);
        Check.due("undo: the reason stays, too", shop.count(4), 1);
    }

    /** The same, of calls that return another error. */
    private static void otherErrorsLeaveTheReason() {
        Refused[] calls = {s -> s.appendCharacter(256), s -> s.count(11), s -> s.lot(8, 0), s -> s.variety(6, 0),
            s -> s.tank(6, 0), s -> s.share(6, 0), s -> s.why(6, 0), s -> s.account(11), s -> s.bottles(4, 0),
            s -> s.daysTo(6, 0), s -> s.blendFor(6, 0, 0)};
        for (int i = 0; i < calls.length; i++) {
            dueInvalid("other error " + i, calls[i]);
        }
        CiderShop shop = crowded();
        for (int length = 9; length <= 100; length++) {
            shop.appendCharacter(' ');
        }
        Check.due("a full text", shop.appendCharacter(' '), Shops.FULL);
        Check.due("a full text: the reason stays", shop.count(4), 13);
        shop.clearText();
        shop.appendCharacter(';');
        Check.due("an error in the text", shop.runScript(), -10);
        Check.due("an error in the text: the reason stays", shop.count(4), 13);
    }

    /** The calls that are no edits save no state, and change nothing. */
    private static void lookingSavesNothing() {
        Refused[] calls = {s -> s.count(0), s -> s.lot(0, 1), s -> s.variety(0, 0), s -> s.tank(0, 1),
            s -> s.share(0, 0), s -> s.why(1, 0), s -> s.account(0), s -> s.bottles(0, 0), s -> s.daysTo(1, 0),
            s -> s.blendFor(1, 3, 0)};
        for (int i = 0; i < calls.length; i++) {
            CiderShop shop = Shops.busy();
            String before = Shops.whole(shop);
            calls[i].by(shop);
            Check.due("looking " + i, Shops.whole(shop), before);
        }
        CiderShop shop = Shops.busy();
        shop.undo();
        String before = Shops.whole(shop);
        shop.appendCharacter('x');
        shop.clearText();
        Check.due("a text that came and went", Shops.whole(shop), before);
        Check.due("undo saves nothing either", shop.undo(), 4);
        Check.due("one state less", shop.count(6), 4);
    }
}
