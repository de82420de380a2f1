/** The boundary cases of promises 16 to 19, and of the history: a test for each sentence. */
public final class EdgesOfForesightTest {
    public static void main(String[] args) {
        nextClerkOutOfRange();
        noNextNumber();
        nextNumber();
        costClerkOutOfRange();
        costManyOutOfRange();
        costOfNothingHeld();
        costLimits();
        costOfEachKind();
        worstOfNone();
        worstOfSeveral();
        foresightChangesNothing();
        undoOfAnEmptyHistory();
        statesThatAreLeft();
        fourStatesAtMost();
        eachChangeIsRecorded();
        refusedCallsAreNotRecorded();
        everythingButTheText();
        undoneThingsAtTheirEnds();
        Rows.end();
    }

    /** Promise 16: "INVALID_ARGUMENT"; that rather than LIMIT_REACHED. */
    private static void nextClerkOutOfRange() {
        Rows.runAfter("promise 16, the ends", Beginnings.MIXED, "next 0 = 4", "next 3 = 32");
        Rows.refusesOutside("promise 16, clerk", Beginnings.MIXED, "next #", 0, 3);
        Rows.refusesOutside("promise 16, clerk of six", Beginnings.SIX_CLERKS, "next #", 0, 5);
        Rows.refusesOutside("promise 16, clerk, if there are no numbers", Beginnings.NONE_LEFT, "next #", 0, 1);
        Rows.changesNothing("promise 16, no clerk", Beginnings.NOTHING, "next 0 = -1", "next -1 = -1");
    }

    /** Promise 16: "LIMIT_REACHED if there is none": not held, not new, not free and handed out again. */
    private static void noNextNumber() {
        Rows.changesNothing("promise 16, one new", Beginnings.ONE_LEFT, "next 0 = 600", "next 1 = 600");
        Rows.changesNothing("promise 16, none", Beginnings.NONE_LEFT, "next 0 = -3", "next 1 = -3");
        String[] oneHeld = Rows.after(Beginnings.FIFTY_LEFT, "ask 0 49 = 599");
        Rows.changesNothing("promise 16, one held", oneHeld, "next 0 = 600", "next 1 = -3");
        String[] oneFree = Rows.after(oneHeld, "giveBack 0 = 1");
        Rows.changesNothing("promise 16, one free", oneFree, "next 0 = 600", "next 1 = 600");
        Rows.changesNothing("promise 16, one free that is not handed out", Rows.after(oneFree, "set 1 0 = 1"),
                "next 0 = -3", "next 1 = -3");
        Rows.changesNothing("promise 16, one closed", Rows.after(oneHeld, "close = 1"), "next 0 = -3", "next 1 = -3");
    }

    /** Promise 16: "Tells which number a clerk would give next": held ones, then free ones, then new ones. */
    private static void nextNumber() {
        Rows.run("promise 16, with the last held one", "clerk 0 = 0", "clerk 0 = 1", "next 0 = 1", "ask 0 9 = 9",
                "next 0 = 10", "ask 0 1 = 10", "next 0 = 11", "ask 1 1 = 11", "next 0 = 21", "giveBack 1 = 9",
                "next 0 = 12", "next 1 = 12", "set 1 0 = 1", "next 0 = 21", "next 1 = 21");
    }

    /** Promise 17: "INVALID_ARGUMENT if an argument is out of range": the clerk. */
    private static void costClerkOutOfRange() {
        Rows.runAfter("promise 17, the ends", Beginnings.MIXED, "cost 0 0 = 0", "cost 2 0 = 9", "cost 3 1 = 0");
        Rows.runAfter("promise 17, the ends of six", Beginnings.SIX_CLERKS, "cost 0 0 = 0", "cost 5 0 = 9");
        Rows.refusesOutside("promise 17, clerk", Beginnings.MIXED, "cost # 0", 0, 3);
        Rows.refusesOutside("promise 17, clerk", Beginnings.MIXED, "cost # 1", 0, 3);
        Rows.refusesOutside("promise 17, clerk of six", Beginnings.SIX_CLERKS, "cost # 50", 0, 5);
        Rows.refusesOutside("promise 17, clerk, if there are no numbers", Beginnings.NONE_LEFT, "cost # 1", 0, 1);
        Rows.changesNothing("promise 17, no clerk", Beginnings.NOTHING, "cost 0 0 = -1", "cost 0 1 = -1");
    }

    /** Promise 17: "many: 0 to 50"; INVALID_ARGUMENT rather than LIMIT_REACHED. */
    private static void costManyOutOfRange() {
        Rows.runAfter("promise 17, the ends of many", Beginnings.MIXED, "cost 2 0 = 9", "cost 2 1 = 8", "cost 2 8 = 1",
                "cost 2 9 = 0", "cost 2 49 = 9", "cost 2 50 = 8");
        Rows.refusesOutside("promise 17, many", Beginnings.MIXED, "cost 2 #", 0, 50);
        Rows.refusesOutside("promise 17, many, if there are no numbers", Beginnings.NONE_LEFT, "cost 0 #", 0, 50);
    }

    /** Promise 17: "Returns how many, 0 if the clerk held nothing then". */
    private static void costOfNothingHeld() {
        Rows.run("promise 17, never a block", "clerk 2 = 0", "cost 0 0 = 0", "cost 0 1 = 9", "cost 0 9 = 1", "cost 0 10 = 0",
                "cost 0 11 = 9");
        Rows.run("promise 17, one held", "clerk 2 = 0", "ask 0 9 = 9", "cost 0 0 = 1", "cost 0 1 = 0", "cost 0 2 = 9",
                "forget 0 = 1", "cost 0 0 = 0");
        Rows.changesNothing("promise 17, none held and none left", Beginnings.NONE_LEFT, "cost 0 0 = 0", "cost 1 0 = 0");
    }

    /** Promise 17: "LIMIT_REACHED as ask() tells". */
    private static void costLimits() {
        Rows.changesNothing("promise 17, as many as are left", Beginnings.FIFTY_LEFT, "cost 1 49 = 1", "cost 1 50 = 0");
        String[] fortyNine = Rows.after(Beginnings.FIFTY_LEFT, "ask 1 1 = 551");
        Rows.changesNothing("promise 17, one more than are left", fortyNine, "cost 1 48 = 1", "cost 1 49 = 0",
                "cost 1 50 = -3", "cost 0 1 = -3", "cost 0 0 = 0");
        Rows.changesNothing("promise 17, none left", Beginnings.NONE_LEFT, "cost 0 1 = -3", "cost 1 50 = -3");
        String[] free = Rows.after(fortyNine, "giveBack 1 = 49");
        Rows.changesNothing("promise 17, free ones left", free, "cost 0 49 = 0", "cost 0 50 = -3", "cost 1 48 = 1");
        Rows.changesNothing("promise 17, free ones that are not handed out", Rows.after(free, "set 1 0 = 1"),
                "cost 0 1 = -3", "cost 0 0 = 0");
    }

    /** Promise 17: what forgetting would take, where the mark is passed and where a block ends. */
    private static void costOfEachKind() {
        Rows.run("promise 17, a careful clerk", "clerk 0 = 0", "cost 0 1 = 0", "cost 0 50 = 0", "ask 0 1 = 1", "cost 0 0 = 0",
                "cost 0 9 = 0");
        Rows.run("promise 17, a lazy clerk", "clerk 1 = 0", "cost 0 0 = 0", "cost 0 1 = 3", "cost 0 4 = 0", "cost 0 5 = 3",
                "cost 0 8 = 0", "cost 0 9 = 1", "cost 0 10 = 0", "cost 0 11 = 3", "ask 0 3 = 3", "cost 0 0 = 1",
                "cost 0 1 = 0", "cost 0 2 = 3");
        Rows.run("promise 17, as forget answers then", "clerk 1 = 0", "cost 0 6 = 2", "ask 0 6 = 6", "forget 0 = 2",
                "cost 0 0 = 0", "cost 0 1 = 1");
    }

    /** Promise 18: "NOT_FOUND if by none any hole would come". */
    private static void worstOfNone() {
        Rows.changesNothing("promise 18, no clerk", Beginnings.NOTHING, "worst = -4");
        Rows.changesNothing("promise 18, nothing held", new String[] {"clerk 2 = 0", "clerk 1 = 1"}, "worst = -4");
        Rows.changesNothing("promise 18, a careful one holds something", new String[] {"clerk 0 = 0", "ask 0 1 = 1"},
                "worst = -4");
        Rows.changesNothing("promise 18, all above the mark", new String[] {"clerk 1 = 0", "ask 0 4 = 4"}, "worst = -4");
        Rows.changesNothing("promise 18, one hole", new String[] {"clerk 1 = 0", "ask 0 3 = 3"}, "worst = 0");
        Rows.run("promise 18, the last number of a block", "clerk 2 = 0", "ask 0 9 = 9", "worst = 0", "ask 0 1 = 10",
                "worst = -4");
    }

    /** Promise 18: "by whose forgetting now most holes would come, of several the lowest". */
    private static void worstOfSeveral() {
        String[] ahead = {"clerk 2 = 0", "clerk 2 = 1", "clerk 2 = 2", "ask 0 5 = 5", "ask 1 5 = 15", "ask 2 5 = 25"};
        Rows.runAfter("promise 18, all alike", ahead, "worst = 0");
        Rows.runAfter("promise 18, the first one less", ahead, "ask 0 1 = 6", "worst = 1");
        Rows.runAfter("promise 18, the first two less", ahead, "ask 0 1 = 6", "ask 1 1 = 16", "worst = 2");
        Rows.runAfter("promise 18, the last one less", ahead, "ask 2 1 = 26", "worst = 0");
        Rows.runAfter("promise 18, the second one most", ahead, "ask 0 1 = 6", "ask 2 1 = 26", "worst = 1");
        Rows.runAfter("promise 18, the last of six", Beginnings.SIX_CLERKS, "worst = 5", "forget 5 = 9", "worst = -4");
        Rows.runAfter("promise 18, a clerk whose coming was undone", Beginnings.NOTHING, "clerk 2 = 0", "ask 0 1 = 1",
                "clerk 2 = 1", "ask 1 1 = 11", "forget 0 = 9", "worst = 1", "undo = 3", "undo = 2", "worst = 0", "undo = 1",
                "undo = 0", "worst = -4");
    }

    /** Questions about what would be are no changes. */
    private static void foresightChangesNothing() {
        Rows.changesNothing("promises 16 to 18", Beginnings.MIXED, "next 0 = 4", "next 3 = 32", "cost 0 0 = 0",
                "cost 1 3 = 3", "cost 2 50 = 8", "cost 3 1 = 0", "worst = 2");
    }

    /** Promise 19: "NOT_POSSIBLE if it is empty": at first, and when all is undone. */
    private static void undoOfAnEmptyHistory() {
        Rows.changesNothing("promise 19, at first", Beginnings.NOTHING, "undo = -2");
        Rows.changesNothing("promise 19, only a text", new String[] {"text close;"}, "undo = -2");
        Rows.changesNothing("promise 19, one undone", new String[] {"clerk 0 = 0", "undo = 0"}, "undo = -2");
        Rows.changesNothing("promise 19, four undone", Rows.after(Beginnings.MIXED, "undo = 3", "undo = 2", "undo = 1",
                "undo = 0"), "undo = -2");
    }

    /** Promise 19: "Returns the number of states that are left in the history". */
    private static void statesThatAreLeft() {
        Rows.run("promise 19, one", "close = 0", "count 10 = 1", "undo = 0", "count 10 = 0", "undo = -2");
        Rows.run("promise 19, three", "close = 0", "close = 0", "close = 0", "count 10 = 3", "undo = 2", "undo = 1",
                "undo = 0", "undo = -2");
        Rows.run("promise 19, four", "close = 0", "close = 0", "close = 0", "close = 0", "count 10 = 4", "undo = 3",
                "undo = 2", "undo = 1", "undo = 0", "undo = -2", "count 1 = 0");
        Rows.run("promise 19, undone and done again", "close = 0", "close = 0", "undo = 1", "clerk 0 = 0", "count 10 = 2",
                "undo = 1", "count 0 = 0", "count 1 = 1", "undo = 0", "count 1 = 0");
    }

    /** "A history of at most 4 states is kept .. if there are 5 states then, the oldest one is dropped." */
    private static void fourStatesAtMost() {
        Rows.run("five", "close = 0", "close = 0", "close = 0", "close = 0", "close = 0", "count 10 = 4", "undo = 3",
                "count 1 = 4", "undo = 2", "count 1 = 3", "undo = 1", "count 1 = 2", "undo = 0", "count 1 = 1", "undo = -2",
                "count 1 = 1");
        Rows.run("nine", "close = 0", "close = 0", "close = 0", "close = 0", "close = 0", "close = 0", "close = 0",
                "close = 0", "close = 0", "count 10 = 4", "undo = 3", "count 1 = 8", "undo = 2", "undo = 1", "undo = 0",
                "count 1 = 5", "undo = -2");
        Rows.run("five, one undone, two more", "close = 0", "close = 0", "close = 0", "close = 0", "close = 0", "undo = 3",
                "clerk 0 = 0", "count 10 = 4", "clerk 0 = 1", "count 10 = 4", "undo = 3", "count 0 = 1", "undo = 2",
                "count 0 = 0", "count 1 = 4", "undo = 1", "count 1 = 3", "undo = 0", "count 1 = 2", "undo = -2");
    }

    /** "The changes are the calls of clerk, ask, forget, giveBack, makeVoid, close, set and play". */
    private static void eachChangeIsRecorded() {
        String[] ahead = {"clerk 2 = 0", "ask 0 3 = 3", "undo = 1", "undo = 0", "clerk 2 = 0", "ask 0 3 = 3"};
        String[] changes = {"clerk 0 = 1", "ask 0 1 = 4", "forget 0 = 7", "giveBack 0 = 7", "makeVoid 3 = 0", "close = 7",
            "set 0 10 = 10", "play = 0"};
        for (String change : changes) {
            Rows.runAfter("a change", ahead, "count 10 = 2", change, "count 10 = 3", "undo = 2", "count 0 = 1", "count 2 = 3",
                    "clerkOf 0 1 = 7", "count 1 = 0", "numberOf 3 0 = 2", "undo = 1", "count 2 = 0", "undo = 0", "count 0 = 0");
        }
        String[] others = {"type 59 = 1", "clearText = 0", "fault 0 = -4", "next 0 = 4", "cost 0 1 = 6", "worst = 0"};
        for (String other : others) {
            Rows.runAfter("no change", ahead, "count 10 = 2", other, "count 10 = 2");
        }
    }

    /** "The calls .. that return no error" are changes: a refused one leaves the oldest state in its place, too. */
    private static void refusedCallsAreNotRecorded() {
        String[] refused = {"clerk 3 = -1", "ask 0 0 = -1", "forget 3 = -2", "giveBack 3 = -2", "makeVoid 2 = -2",
            "set 3 0 = -1", "play = -2", "forget 4 = -1", "giveBack 4 = -1", "makeVoid 601 = -1", "ask 4 1 = -1"};
        for (String call : refused) {
            Rows.runAfter("no change", Beginnings.MIXED, "count 10 = 4", call, "count 10 = 4", "undo = 3", "numberOf 2 0 = 2",
                    "undo = 2", "count 4 = 0", "undo = 1", "count 2 = 6", "undo = 0", "count 2 = 5", "undo = -2");
        }
    }

    /** "Each change records everything before it but the text". */
    private static void everythingButTheText() {
        Rows.run("the text stays as it is", "type 65 = 1", "clerk 0 = 0", "type 66 = 2", "close = 0", "type 67 = 3",
                "undo = 1", "count 11 = 3", "clearText = 3", "undo = 0", "count 11 = 0");
        Rows.runAfter("numbers, clerks, settings, day", Beginnings.MIXED, "set 2 7 = 4", "clerk 0 = 4", "forget 2 = 9",
                "close = 24", "undo = 3", "count 1 = 0", "numberOf 22 4 = 0", "clerkOf 1 1 = 8", "clerkOf 1 4 = 14",
                "freeAt 0 1 = 40", "undo = 2", "numberOf 22 4 = -4", "numberOf 22 0 = 1", "clerkOf 2 2 = 22", "count 0 = 5",
                "undo = 1", "count 0 = 4", "clerkOf 4 0 = -1", "count 22 = 7", "undo = 0", "count 22 = 4");
    }

    /** Promise 19: "Restores the latest state of the history", where a state was at its end. */
    private static void undoneThingsAtTheirEnds() {
        Rows.runAfter("the last numbers", Beginnings.NONE_LEFT, "undo = 3", "count 6 = 551", "count 2 = 550",
                "turnAt 550 = -4", "turnAt 549 = 550", "numberOf 600 2 = -4", "clerkOf 0 9 = 550", "next 1 = 551",
                "ask 1 50 = 600", "numberOf 600 1 = 1", "clerkOf 0 5 = 550", "clerkOf 1 5 = 50");
        Rows.runAfter("the first one", new String[] {"clerk 1 = 0", "ask 0 1 = 1"}, "undo = 1", "clerkOf 0 9 = -4",
                "clerkOf 0 8 = 0", "clerkOf 0 4 = -4", "count 6 = 1", "turnAt 0 = -4", "set 2 2 = 4", "ask 0 1 = 1",
                "clerkOf 0 4 = 2");
    }
}
