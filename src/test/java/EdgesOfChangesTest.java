/** The boundary cases of promises 1 to 8: a test for each sentence, and nothing changes where a call is refused. */
public final class EdgesOfChangesTest {
    public static void main(String[] args) {
        newObjectIsEmpty();
        kindOutOfRange();
        sixthClerk();
        newClerkHoldsNothing();
        askedClerkOutOfRange();
        askedManyOutOfRange();
        notSoManyForThisClerk();
        whatCountsForThisClerk();
        lastOfThem();
        forgettingClerkOutOfRange();
        forgettingNothing();
        howManyHolesByForgetting();
        givingBackClerkOutOfRange();
        givingBackNothing();
        howManyAreGivenBack();
        voidOutOfRange();
        voidIfNotGiven();
        whoGaveTheVoidOne();
        howManyHolesByClosing();
        settingOutOfRange();
        whatASettingWas();
        Rows.end();
    }

    /** Promise 1: "Creates an office without clerks, on the day 0." */
    private static void newObjectIsEmpty() {
        Rows.run("promise 1", "count 0 = 0", "count 1 = 0", "count 10 = 0", "count 11 = 0", "clerkOf 0 0 = -1",
                "next 0 = -1", "worst = -4", "undo = -2", "holesAt 0 0 = -4", "freeAt 0 0 = -4", "turnAt 0 = -4",
                "fault 0 = -4");
        Rows.due("objects know nothing of one another", Sight.after().differenceFrom(seenBehindAnother()).isEmpty());
    }

    private static Sight seenBehindAnother() {
        Rows.run("another object", Beginnings.MIXED);
        return Sight.afresh();
    }

    /** Promise 2: "kind: 0 careful, 1 lazy, 2 dreamy", "INVALID_ARGUMENT if kind is out of range". */
    private static void kindOutOfRange() {
        Rows.run("promise 2, the kinds", "clerk 0 = 0", "clerk 1 = 1", "clerk 2 = 2", "clerkOf 0 0 = 0",
                "clerkOf 1 0 = 1", "clerkOf 2 0 = 2");
        Rows.refusesOutside("promise 2, kind", Beginnings.NOTHING, "clerk #", 0, 2);
        Rows.refusesOutside("promise 2, kind", Beginnings.MIXED, "clerk #", 0, 2);
    }

    /** Promise 2: "LIMIT_REACHED if there are 6"; INVALID_ARGUMENT rather than that. */
    private static void sixthClerk() {
        Rows.runAfter("promise 2, a fifth and a sixth one", Beginnings.MIXED, "clerk 1 = 4", "clerk 2 = 5",
                "clerk 0 = -3", "count 0 = 6");
        Rows.changesNothing("promise 2, a seventh one", Beginnings.SIX_CLERKS, "clerk 0 = -3", "clerk 1 = -3",
                "clerk 2 = -3");
        Rows.refusesOutside("promise 2, a seventh one, kind", Beginnings.SIX_CLERKS, "clerk #", 0, 2);
        Rows.run("promise 2, the sixth one undone", "clerk 0 = 0", "clerk 0 = 1", "clerk 0 = 2", "clerk 0 = 3",
                "clerk 0 = 4", "clerk 0 = 5", "clerk 1 = -3", "undo = 3", "clerk 1 = 5", "clerkOf 5 0 = 1", "clerk 1 = -3");
    }

    /** Promise 2: "Adds a clerk, who holds nothing." */
    private static void newClerkHoldsNothing() {
        Rows.runAfter("promise 2, a new clerk", Beginnings.MIXED, "clerk 2 = 4", "clerkOf 4 1 = 0", "clerkOf 4 2 = -4",
                "clerkOf 4 3 = -4", "clerkOf 4 4 = -4", "clerkOf 4 5 = 0", "clerkOf 4 6 = 0", "clerkOf 4 7 = 0",
                "clerkOf 4 8 = 0", "clerkOf 4 9 = -4", "forget 4 = -2", "giveBack 4 = -2", "next 4 = 32");
    }

    /** Promise 3: "INVALID_ARGUMENT if an argument is out of range": the clerk. */
    private static void askedClerkOutOfRange() {
        Rows.runAfter("promise 3, the first and the last clerk", Beginnings.MIXED, "ask 0 1 = 4", "ask 3 1 = 32");
        Rows.runAfter("promise 3, the first and the last of six", Beginnings.SIX_CLERKS, "ask 0 1 = 11", "ask 5 1 = 2");
        Rows.refusesOutside("promise 3, clerk", Beginnings.MIXED, "ask # 1", 0, 3);
        Rows.refusesOutside("promise 3, clerk of six", Beginnings.SIX_CLERKS, "ask # 1", 0, 5);
        Rows.changesNothing("promise 3, no clerk", Beginnings.NOTHING, "ask 0 1 = -1", "ask -1 1 = -1");
    }

    /** Promise 3: "many: 1 to 50"; INVALID_ARGUMENT rather than LIMIT_REACHED. */
    private static void askedManyOutOfRange() {
        Rows.runAfter("promise 3, the least", Beginnings.MIXED, "ask 3 1 = 32", "count 2 = 8");
        Rows.runAfter("promise 3, two", Beginnings.MIXED, "ask 3 2 = 33", "count 2 = 9");
        Rows.runAfter("promise 3, one below the most", Beginnings.MIXED, "ask 3 49 = 80", "count 2 = 56");
        Rows.runAfter("promise 3, the most", Beginnings.MIXED, "ask 3 50 = 81", "count 2 = 57");
        Rows.refusesOutside("promise 3, many", Beginnings.MIXED, "ask 0 #", 1, 50);
        Rows.refusesOutside("promise 3, many, if there are none", Beginnings.NONE_LEFT, "ask 0 #", 1, 50);
        Rows.refusesOutside("promise 3, clerk, if there are none", Beginnings.NONE_LEFT, "ask # 1", 0, 1);
    }

    /** Promise 3: "LIMIT_REACHED if there are not so many for this clerk". */
    private static void notSoManyForThisClerk() {
        Rows.runAfter("promise 3, 50 of 50", Beginnings.FIFTY_LEFT, "ask 1 50 = 600");
        Rows.runAfter("promise 3, 49 of 50", Beginnings.FIFTY_LEFT, "ask 1 49 = 599", "ask 1 1 = 600");
        String[] fortyNine = Rows.after(Beginnings.FIFTY_LEFT, "ask 0 1 = 551");
        Rows.runAfter("promise 3, 49 of 49", fortyNine, "ask 0 49 = 600");
        Rows.changesNothing("promise 3, 50 of 49", fortyNine, "ask 0 50 = -3");
        Rows.changesNothing("promise 3, another clerk's", fortyNine, "ask 1 1 = -3", "ask 1 49 = -3");
        Rows.runAfter("promise 3, 1 of 1", Beginnings.ONE_LEFT, "ask 0 1 = 600");
        Rows.changesNothing("promise 3, 2 of 1", Beginnings.ONE_LEFT, "ask 0 2 = -3", "ask 1 50 = -3");
        Rows.changesNothing("promise 3, 1 of none", Beginnings.NONE_LEFT, "ask 0 1 = -3", "ask 1 1 = -3", "ask 1 50 = -3");
    }

    /** Promise 3: "held by the clerk, new, and free ones, if these are handed out again". */
    private static void whatCountsForThisClerk() {
        String[] heldAndNew = Rows.after(Beginnings.FIFTY_LEFT, "set 0 20 = 50", "ask 0 5 = 555");
        Rows.runAfter("promise 3, 15 held and 30 new", heldAndNew, "ask 0 45 = 600");
        Rows.changesNothing("promise 3, one more than held and new", heldAndNew, "ask 0 46 = -3");
        Rows.runAfter("promise 3, 30 new", heldAndNew, "ask 1 30 = 600");
        Rows.changesNothing("promise 3, one more than new", heldAndNew, "ask 1 31 = -3");
        String[] freeAndNew = Rows.after(heldAndNew, "giveBack 0 = 15");
        Rows.runAfter("promise 3, 15 free and 30 new", freeAndNew, "ask 1 45 = 600");
        Rows.changesNothing("promise 3, one more than free and new", freeAndNew, "ask 1 46 = -3");
        String[] allThree = Rows.after(freeAndNew, "set 0 5 = 20", "ask 1 1 = 556");
        Rows.runAfter("promise 3, 4 held, 10 free and 30 new", allThree, "ask 1 44 = 600", "count 4 = 0");
        Rows.changesNothing("promise 3, one more than all three", allThree, "ask 1 45 = -3");
        Rows.runAfter("promise 3, without the other one's held ones", allThree, "ask 0 40 = 600");
        Rows.changesNothing("promise 3, the other one's held ones", allThree, "ask 0 41 = -3");
        String[] freeOnesKept = Rows.after(freeAndNew, "set 1 0 = 1");
        Rows.runAfter("promise 3, free ones that are not handed out", freeOnesKept, "ask 1 30 = 600", "count 4 = 15");
        Rows.changesNothing("promise 3, one more than new, free ones kept", freeOnesKept, "ask 1 31 = -3");
    }

    /** Promise 3: "Returns the last one of them": the last one given, which need not be the greatest one. */
    private static void lastOfThem() {
        Rows.run("promise 3, the last one", "clerk 0 = 0", "clerk 0 = 1", "ask 0 5 = 5", "ask 1 1 = 11", "giveBack 0 = 5",
                "ask 1 9 = 20", "ask 1 1 = 6", "ask 1 4 = 10", "ask 1 1 = 21");
        Rows.run("promise 3, the last one is lower than the others", "clerk 0 = 0", "clerk 0 = 1", "ask 0 5 = 5",
                "ask 1 1 = 11", "giveBack 0 = 5", "ask 1 10 = 6", "numberOf 20 2 = 14", "numberOf 6 2 = 15");
    }

    /** Promise 4: "INVALID_ARGUMENT"; that rather than NOT_POSSIBLE. */
    private static void forgettingClerkOutOfRange() {
        Rows.runAfter("promise 4, the first and the third clerk", Beginnings.MIXED, "forget 0 = 0", "forget 2 = 9");
        Rows.runAfter("promise 4, the last of six", Beginnings.SIX_CLERKS, "forget 5 = 9");
        Rows.refusesOutside("promise 4, clerk", Beginnings.MIXED, "forget #", 0, 3);
        Rows.refusesOutside("promise 4, clerk of six", Beginnings.SIX_CLERKS, "forget #", 0, 5);
        Rows.changesNothing("promise 4, no clerk", Beginnings.NOTHING, "forget 0 = -1");
    }

    /** Promise 4: "NOT_POSSIBLE if the clerk holds nothing": never, no more, forgotten, given back, closed. */
    private static void forgettingNothing() {
        Rows.changesNothing("promise 4, never a block", new String[] {"clerk 2 = 0"}, "forget 0 = -2");
        Rows.changesNothing("promise 4, all given", new String[] {"clerk 2 = 0", "ask 0 10 = 10"}, "forget 0 = -2");
        Rows.changesNothing("promise 4, all forgotten", new String[] {"clerk 2 = 0", "ask 0 9 = 9", "forget 0 = 1"},
                "forget 0 = -2");
        Rows.changesNothing("promise 4, given back", Beginnings.MIXED, "forget 3 = -2");
        Rows.changesNothing("promise 4, closed", Rows.after(Beginnings.MIXED, "close = 33"), "forget 0 = -2",
                "forget 1 = -2", "forget 2 = -2", "forget 3 = -2");
        Rows.run("promise 4, one is held", "clerk 2 = 0", "ask 0 9 = 9", "forget 0 = 1", "count 5 = 1");
    }

    /** Promise 4: "Returns how many holes come by it", which may be none, and is a change then, too. */
    private static void howManyHolesByForgetting() {
        Rows.runAfter("promise 4, none", Beginnings.MIXED, "forget 0 = 0", "count 5 = 1", "clerkOf 0 1 = 7");
        Rows.runAfter("promise 4, some", Beginnings.MIXED, "forget 1 = 2", "count 5 = 3", "clerkOf 1 1 = 6");
        Rows.runAfter("promise 4, all", Beginnings.MIXED, "forget 2 = 9", "count 5 = 10", "clerkOf 2 1 = 0");
        Rows.run("promise 4, none is a change, too", "clerk 0 = 0", "ask 0 1 = 1", "count 10 = 2", "forget 0 = 0",
                "count 10 = 3");
    }

    /** Promise 5: "INVALID_ARGUMENT"; that rather than NOT_POSSIBLE. */
    private static void givingBackClerkOutOfRange() {
        Rows.runAfter("promise 5, the first and the third clerk", Beginnings.MIXED, "giveBack 0 = 7", "giveBack 2 = 9");
        Rows.runAfter("promise 5, the last of six", Beginnings.SIX_CLERKS, "giveBack 5 = 9");
        Rows.refusesOutside("promise 5, clerk", Beginnings.MIXED, "giveBack #", 0, 3);
        Rows.refusesOutside("promise 5, clerk of six", Beginnings.SIX_CLERKS, "giveBack #", 0, 5);
        Rows.changesNothing("promise 5, no clerk", Beginnings.NOTHING, "giveBack 0 = -1");
    }

    /** Promise 5: "NOT_POSSIBLE if the clerk holds nothing": never, no more, forgotten, given back, closed. */
    private static void givingBackNothing() {
        Rows.changesNothing("promise 5, never a block", new String[] {"clerk 2 = 0"}, "giveBack 0 = -2");
        Rows.changesNothing("promise 5, all given", new String[] {"clerk 2 = 0", "ask 0 10 = 10"}, "giveBack 0 = -2");
        Rows.changesNothing("promise 5, all forgotten", new String[] {"clerk 2 = 0", "ask 0 9 = 9", "forget 0 = 1"},
                "giveBack 0 = -2");
        Rows.changesNothing("promise 5, given back", Beginnings.MIXED, "giveBack 3 = -2");
        Rows.changesNothing("promise 5, given back as holes", new String[] {"clerk 0 = 0", "set 1 0 = 1", "ask 0 1 = 1",
            "giveBack 0 = 9"}, "giveBack 0 = -2");
        Rows.changesNothing("promise 5, closed", Rows.after(Beginnings.MIXED, "close = 33"), "giveBack 0 = -2",
                "giveBack 2 = -2");
    }

    /** Promise 5: "Returns how many numbers these are": from one to the whole rest. */
    private static void howManyAreGivenBack() {
        Rows.run("promise 5, one", "clerk 0 = 0", "ask 0 9 = 9", "giveBack 0 = 1", "count 4 = 1");
        Rows.run("promise 5, two", "clerk 0 = 0", "ask 0 8 = 8", "giveBack 0 = 2", "count 4 = 2");
        Rows.run("promise 5, all but the first", "clerk 0 = 0", "set 0 50 = 10", "ask 0 1 = 1", "giveBack 0 = 49");
        Rows.runAfter("promise 5, those above the mark", Beginnings.MIXED, "forget 1 = 2", "giveBack 1 = 6",
                "freeAt 0 0 = 15", "freeAt 0 1 = 20");
    }

    /** Promise 6: "number: 1 to 600", "INVALID_ARGUMENT if number is out of range". */
    private static void voidOutOfRange() {
        Rows.runAfter("promise 6, the first and the last one", Beginnings.NONE_LEFT, "makeVoid 1 = 0", "makeVoid 600 = 0",
                "makeVoid 2 = 0", "makeVoid 599 = 0", "count 9 = 2", "count 5 = 4");
        Rows.changesNothing("promise 6, the first and the last one are new", Beginnings.NOTHING, "makeVoid 1 = -2",
                "makeVoid 600 = -2");
        Rows.refusesOutside("promise 6, number", Beginnings.MIXED, "makeVoid #", 1, 600);
        Rows.refusesOutside("promise 6, number, if all are given", Beginnings.NONE_LEFT, "makeVoid #", 1, 600);
    }

    /** Promise 6: "NOT_POSSIBLE if its state is not given": 0, 1, 3 and 4, a hole of each reason. */
    private static void voidIfNotGiven() {
        Rows.changesNothing("promise 6, new, held, free, void", Beginnings.MIXED, "makeVoid 41 = -2", "makeVoid 600 = -2",
                "makeVoid 4 = -2", "makeVoid 30 = -2", "makeVoid 32 = -2", "makeVoid 40 = -2", "makeVoid 2 = -2");
        String[] holes = Rows.after(Beginnings.MIXED, "forget 1 = 2", "set 1 0 = 1", "giveBack 2 = 9", "close = 22");
        Rows.changesNothing("promise 6, holes", holes, "makeVoid 13 = -2", "makeVoid 22 = -2", "makeVoid 2 = -2",
                "makeVoid 4 = -2", "makeVoid 32 = -2");
        Rows.runAfter("promise 6, given, beside those", holes, "makeVoid 1 = 0", "makeVoid 3 = 0", "makeVoid 12 = 1",
                "makeVoid 21 = 2", "makeVoid 31 = 3");
    }

    /** Promise 6: "Returns the clerk who gave it": from the first clerk to the last one. */
    private static void whoGaveTheVoidOne() {
        Rows.runAfter("promise 6, who gave it", Beginnings.SIX_CLERKS, "ask 0 1 = 11", "makeVoid 11 = 0", "makeVoid 1 = 5");
        Rows.runAfter("promise 6, not who gave it back", Beginnings.MIXED, "ask 2 9 = 30", "ask 2 1 = 32", "makeVoid 32 = 2",
                "numberOf 32 1 = 2");
    }

    /** Promise 7: "Returns how many holes come by it": from none to all that are held or free. */
    private static void howManyHolesByClosing() {
        Rows.run("promise 7, none", "close = 0", "count 5 = 0", "count 1 = 1", "count 10 = 1");
        Rows.run("promise 7, one", "clerk 0 = 0", "ask 0 9 = 9", "close = 1", "numberOf 10 4 = 3");
        Rows.run("promise 7, one free one", "clerk 0 = 0", "ask 0 9 = 9", "giveBack 0 = 1", "close = 1",
                "numberOf 10 4 = 3");
        Rows.runAfter("promise 7, holes do not come again", Beginnings.MIXED, "close = 33", "count 5 = 34", "close = 0",
                "count 5 = 34");
        Rows.runAfter("promise 7, up to 600", Beginnings.FIFTY_LEFT, "ask 0 1 = 551", "close = 49",
                "numberOf 600 4 = 3", "next 0 = -3");
    }

    /** Promise 8: "what: 0 to 2", "value: a value in its range". */
    private static void settingOutOfRange() {
        Rows.refusesOutside("promise 8, what", Beginnings.MIXED, "set # 1", 0, 2);
        Rows.refusesOutside("promise 8, what", Beginnings.MIXED, "set # 2", 0, 2);
        Rows.changesNothing("promise 8, a value of another setting", Beginnings.MIXED, "set 1 2 = -1", "set 1 10 = -1",
                "set 2 1 = -1", "set 2 0 = -1", "set 2 50 = -1", "set 0 0 = -1");
        Rows.run("promise 8, beside the ends", "set 0 2 = 10", "set 0 49 = 2", "set 2 3 = 4", "set 2 9 = 3");
    }

    /** Promise 8: "Returns what it was", also if it stays the same, which is a change, too. */
    private static void whatASettingWas() {
        Rows.run("promise 8, what it was", "set 0 1 = 10", "set 0 50 = 1", "set 0 50 = 50", "set 1 0 = 1", "set 1 0 = 0",
                "set 1 1 = 0", "set 2 2 = 4", "set 2 10 = 2", "set 2 10 = 10");
        Rows.run("promise 8, the same value", "set 0 10 = 10", "count 10 = 1", "undo = 0", "count 20 = 10");
    }
}
