/** The boundary cases of promises 9 to 15: a test for each sentence; no question changes anything. */
public final class EdgesOfAnswersTest {
    public static void main(String[] args) {
        numberOutOfRange();
        whatOfNumberOutOfRange();
        noSuchThingOfANumber();
        lateOrNot();
        clerkOutOfRange();
        whatOfClerkOutOfRange();
        clerkHoldsNothing();
        clerkGaveNone();
        holesOfAClerk();
        holesOutOfRange();
        notSoManyRowsOfHoles();
        rowOfHolesWithoutClerk();
        rowsOfHolesEnd();
        rowsOfHolesAtTheEnds();
        freeOutOfRange();
        notSoManyFreeRows();
        freeRowsEnd();
        turnOutOfRange();
        notSoManyTurns();
        amongOutOfRange();
        amongStateOutOfRange();
        amongCounts();
        countOutOfRange();
        lowestNewNumber();
        lateNumbers();
        givenWithoutGap();
        countsAtTheirEnds();
        questionsChangeNothing();
        Rows.end();
    }

    /** Promise 9: "number: 1 to 600". */
    private static void numberOutOfRange() {
        Rows.runAfter("promise 9, the ends", Beginnings.NONE_LEFT, "numberOf 1 2 = 0", "numberOf 2 2 = 1",
                "numberOf 599 2 = 598", "numberOf 600 2 = 599");
        for (int what = 0; what <= 5; what++) {
            Rows.run("promise 9, number", "numberOf 0 " + what + " = -1", "numberOf 601 " + what + " = -1");
        }
        Rows.refusesOutside("promise 9, number", Beginnings.MIXED, "numberOf # 0", 1, 600);
    }

    /** Promise 9: "what: 0 .. 5"; INVALID_ARGUMENT rather than NOT_FOUND. */
    private static void whatOfNumberOutOfRange() {
        Rows.runAfter("promise 9, the ends of what", Beginnings.MIXED, "numberOf 3 0 = 2", "numberOf 3 1 = 0",
                "numberOf 3 4 = -4", "numberOf 3 5 = 0");
        Rows.refusesOutside("promise 9, what", Beginnings.MIXED, "numberOf 3 #", 0, 5);
        Rows.refusesOutside("promise 9, what of a new one", Beginnings.NOTHING, "numberOf 1 #", 0, 5);
    }

    /** Promise 9: "NOT_FOUND if there is no such thing of it", for each thing and each state. */
    private static void noSuchThingOfANumber() {
        Rows.runAfter("promise 9, a new one", Beginnings.MIXED, "numberOf 41 0 = 0", "numberOf 41 1 = -4",
                "numberOf 41 2 = -4", "numberOf 41 3 = -4", "numberOf 41 4 = -4", "numberOf 41 5 = -4");
        Rows.runAfter("promise 9, a held one", Beginnings.MIXED, "numberOf 4 0 = 1", "numberOf 4 1 = 0",
                "numberOf 4 2 = -4", "numberOf 4 3 = -4", "numberOf 4 4 = -4", "numberOf 4 5 = -4");
        Rows.runAfter("promise 9, a given one", Beginnings.MIXED, "numberOf 1 0 = 2", "numberOf 1 1 = 0",
                "numberOf 1 2 = 0", "numberOf 1 3 = 0", "numberOf 1 4 = -4", "numberOf 1 5 = 0");
        Rows.runAfter("promise 9, a free one", Beginnings.MIXED, "numberOf 32 0 = 3", "numberOf 32 1 = -4",
                "numberOf 32 2 = -4", "numberOf 32 3 = -4", "numberOf 32 4 = -4", "numberOf 32 5 = -4");
        Rows.runAfter("promise 9, a void one", Beginnings.MIXED, "numberOf 2 0 = 4", "numberOf 2 1 = 0",
                "numberOf 2 2 = 1", "numberOf 2 3 = 0", "numberOf 2 4 = 2", "numberOf 2 5 = 0");
        String[] holes = Rows.after(Beginnings.MIXED, "forget 2 = 9", "set 1 0 = 1", "giveBack 1 = 8", "close = 16");
        Rows.runAfter("promise 9, a forgotten one", holes, "numberOf 22 0 = 4", "numberOf 22 1 = 2", "numberOf 22 2 = -4",
                "numberOf 22 3 = -4", "numberOf 22 4 = 0", "numberOf 22 5 = -4");
        Rows.runAfter("promise 9, one given back", holes, "numberOf 13 0 = 4", "numberOf 13 1 = 1", "numberOf 13 2 = -4",
                "numberOf 13 3 = -4", "numberOf 13 4 = 1", "numberOf 13 5 = -4");
        Rows.runAfter("promise 9, a closed one", holes, "numberOf 4 0 = 4", "numberOf 4 1 = 0", "numberOf 4 2 = -4",
                "numberOf 4 3 = -4", "numberOf 4 4 = 3", "numberOf 4 5 = -4");
        Rows.runAfter("promise 9, a closed one that was free", holes, "numberOf 32 0 = 4", "numberOf 32 1 = -4",
                "numberOf 32 2 = -4", "numberOf 32 3 = -4", "numberOf 32 4 = 3", "numberOf 32 5 = -4");
    }

    /** Promise 9: "5: 1 if it was given and is late, 0 if it was given and is not". */
    private static void lateOrNot() {
        String[] ahead = {"clerk 0 = 0", "clerk 0 = 1", "ask 0 1 = 1", "ask 1 1 = 11", "ask 0 9 = 10", "ask 0 1 = 21",
            "ask 1 9 = 20"};
        Rows.runAfter("promise 9, late or not", ahead, "numberOf 1 5 = 0", "numberOf 2 5 = 1", "numberOf 10 5 = 1",
                "numberOf 11 5 = 0", "numberOf 12 5 = 1", "numberOf 20 5 = 1", "numberOf 21 5 = 0", "numberOf 22 5 = -4");
        Rows.runAfter("promise 9, late or not, void", ahead, "makeVoid 1 = 0", "makeVoid 2 = 0", "makeVoid 21 = 0",
                "makeVoid 11 = 1", "numberOf 1 5 = 0", "numberOf 2 5 = 1", "numberOf 10 5 = 1", "numberOf 11 5 = 0",
                "numberOf 12 5 = 1", "numberOf 21 5 = 0");
    }

    /** Promise 10: "INVALID_ARGUMENT if an argument is out of range": the clerk. */
    private static void clerkOutOfRange() {
        Rows.runAfter("promise 10, the ends", Beginnings.MIXED, "clerkOf 0 9 = 3", "clerkOf 3 9 = 31");
        Rows.runAfter("promise 10, the ends of six", Beginnings.SIX_CLERKS, "clerkOf 0 0 = 0", "clerkOf 5 9 = 1");
        for (int what = 0; what <= 9; what++) {
            Rows.runAfter("promise 10, clerk", Beginnings.MIXED, "clerkOf -1 " + what + " = -1", "clerkOf 4 " + what + " = -1");
            Rows.run("promise 10, no clerk", "clerkOf 0 " + what + " = -1");
        }
        Rows.refusesOutside("promise 10, clerk", Beginnings.MIXED, "clerkOf # 0", 0, 3);
        Rows.refusesOutside("promise 10, clerk of six", Beginnings.SIX_CLERKS, "clerkOf # 0", 0, 5);
    }

    /** Promise 10: "what: 0 .. 9"; INVALID_ARGUMENT rather than NOT_FOUND. */
    private static void whatOfClerkOutOfRange() {
        Rows.runAfter("promise 10, the ends of what", Beginnings.MIXED, "clerkOf 1 0 = 1", "clerkOf 1 1 = 8",
                "clerkOf 1 8 = 1", "clerkOf 1 9 = 12");
        Rows.refusesOutside("promise 10, what", Beginnings.MIXED, "clerkOf 1 #", 0, 9);
        Rows.refusesOutside("promise 10, what of one who did nothing", new String[] {"clerk 0 = 0"}, "clerkOf 0 #", 0, 9);
    }

    /** Promise 10: "NOT_FOUND for 2 to 4 if the clerk holds nothing": 1 and 5 are found then, too. */
    private static void clerkHoldsNothing() {
        String[] nothing = {"clerkOf 0 1 = 0", "clerkOf 0 2 = -4", "clerkOf 0 3 = -4", "clerkOf 0 4 = -4"};
        Rows.runAfter("promise 10, never a block", Rows.after(new String[] {"clerk 2 = 0"}, nothing), "clerkOf 0 5 = 0");
        Rows.runAfter("promise 10, one is held", new String[] {"clerk 2 = 0", "ask 0 9 = 9"}, "clerkOf 0 1 = 1",
                "clerkOf 0 2 = 10", "clerkOf 0 3 = 10", "clerkOf 0 4 = 10", "clerkOf 0 5 = 9");
        Rows.runAfter("promise 10, all given", Rows.after(new String[] {"clerk 2 = 0", "ask 0 10 = 10"}, nothing),
                "clerkOf 0 5 = 10");
        Rows.runAfter("promise 10, all forgotten", Rows.after(new String[] {"clerk 2 = 0", "ask 0 2 = 2", "forget 0 = 8"},
                nothing), "clerkOf 0 5 = 2");
        Rows.runAfter("promise 10, given back", Rows.after(new String[] {"clerk 1 = 0", "ask 0 2 = 2", "giveBack 0 = 8"},
                nothing), "clerkOf 0 5 = 2");
        Rows.runAfter("promise 10, closed", Rows.after(new String[] {"clerk 0 = 0", "ask 0 2 = 2", "close = 8"}, nothing),
                "clerkOf 0 5 = 2");
    }

    /** Promise 10: "NOT_FOUND .. for 9 if the clerk gave none". */
    private static void clerkGaveNone() {
        Rows.run("promise 10, gave none", "clerk 0 = 0", "clerk 0 = 1", "clerkOf 0 9 = -4", "clerkOf 0 5 = 0",
                "ask 1 1 = 1", "clerkOf 0 9 = -4", "ask 0 1 = 11", "clerkOf 0 9 = 11", "clerkOf 1 9 = 1", "makeVoid 11 = 0",
                "clerkOf 0 9 = 11", "clerkOf 0 5 = 1", "undo = 3", "undo = 2", "clerkOf 0 9 = -4", "clerkOf 0 5 = 0");
        Rows.run("promise 10, the latest is not the greatest", "clerk 0 = 0", "clerk 0 = 1", "ask 0 1 = 1", "ask 1 1 = 11",
                "giveBack 0 = 9", "ask 1 10 = 2", "clerkOf 1 9 = 2");
    }

    /** Promise 10: "6: holes of this clerk; 7: of these, forgotten ones": none, some, and not another clerk's. */
    private static void holesOfAClerk() {
        String[] ahead = Rows.after(Beginnings.MIXED, "forget 1 = 2");
        Rows.runAfter("promise 10, holes", ahead, "clerkOf 0 6 = 1", "clerkOf 0 7 = 0", "clerkOf 1 6 = 2", "clerkOf 1 7 = 2",
                "clerkOf 2 6 = 0", "clerkOf 2 7 = 0", "clerkOf 3 6 = 0");
        Rows.runAfter("promise 10, holes of each reason", ahead, "set 1 0 = 1", "giveBack 2 = 9", "clerkOf 2 6 = 9",
                "clerkOf 2 7 = 0", "close = 22", "clerkOf 0 6 = 8", "clerkOf 1 6 = 8", "clerkOf 1 7 = 2", "clerkOf 2 6 = 9",
                "clerkOf 3 6 = 0");
        Rows.runAfter("promise 10, holes at 1 and 600", Beginnings.NONE_LEFT, "makeVoid 1 = 0", "clerkOf 0 6 = 1",
                "makeVoid 600 = 0", "clerkOf 0 6 = 2", "clerkOf 0 7 = 0");
        Rows.runAfter("promise 10, 600 forgotten", Beginnings.FIFTY_LEFT, "ask 1 49 = 599", "forget 1 = 1",
                "clerkOf 1 6 = 1", "clerkOf 1 7 = 1", "clerkOf 0 6 = 0");
    }

    /** Promise 11: "INVALID_ARGUMENT if an argument is out of range"; that rather than NOT_FOUND. */
    private static void holesOutOfRange() {
        Rows.runAfter("promise 11, the ends of what", Beginnings.MIXED, "holesAt 0 0 = 2", "holesAt 0 1 = 2",
                "holesAt 0 2 = 2", "holesAt 0 3 = 0");
        Rows.changesNothing("promise 11, index", Beginnings.MIXED, "holesAt -1 0 = -1", "holesAt -2147483648 0 = -1",
                "holesAt -1 4 = -1", "holesAt -1 3 = -1");
        Rows.refusesOutside("promise 11, what", Beginnings.MIXED, "holesAt 0 #", 0, 3);
        Rows.refusesOutside("promise 11, what of a row that there is not", Beginnings.MIXED, "holesAt 1 #", 0, 3);
        Rows.refusesOutside("promise 11, what without holes", Beginnings.NOTHING, "holesAt 0 #", 0, 3);
    }

    /** Promise 11: "NOT_FOUND if there are not so many". */
    private static void notSoManyRowsOfHoles() {
        Rows.changesNothing("promise 11, none", Beginnings.NOTHING, "holesAt 0 0 = -4", "holesAt 0 1 = -4",
                "holesAt 0 2 = -4", "holesAt 0 3 = -4", "holesAt 1 0 = -4");
        Rows.changesNothing("promise 11, one", Beginnings.MIXED, "holesAt 1 0 = -4", "holesAt 1 1 = -4", "holesAt 1 2 = -4",
                "holesAt 1 3 = -4", "holesAt 2147483647 0 = -4");
        Rows.runAfter("promise 11, two", Beginnings.MIXED, "makeVoid 31 = 3", "count 9 = 2", "holesAt 0 0 = 2",
                "holesAt 1 0 = 31", "holesAt 2 0 = -4");
    }

    /** Promise 11: "NOT_FOUND .. for 3 if there is no clerk"; the clerk 0 is one. */
    private static void rowOfHolesWithoutClerk() {
        Rows.run("promise 11, no clerk", "clerk 0 = 0", "ask 0 9 = 9", "giveBack 0 = 1", "close = 1", "holesAt 0 0 = 10",
                "holesAt 0 1 = 10", "holesAt 0 2 = 3", "holesAt 0 3 = -4");
        Rows.run("promise 11, the clerk 0", "clerk 0 = 0", "ask 0 9 = 9", "close = 1", "holesAt 0 0 = 10", "holesAt 0 1 = 10",
                "holesAt 0 2 = 3", "holesAt 0 3 = 0");
    }

    /** Promise 11: "as many as possible, with the same reason and the same clerk (or none)". */
    private static void rowsOfHolesEnd() {
        Rows.run("promise 11, the same reason, another clerk", "clerk 0 = 0", "clerk 0 = 1", "ask 0 10 = 10", "ask 1 1 = 11",
                "makeVoid 10 = 0", "makeVoid 11 = 1", "count 9 = 2", "holesAt 0 1 = 10", "holesAt 1 0 = 11");
        Rows.run("promise 11, the same clerk, another reason", "clerk 1 = 0", "set 1 0 = 1", "ask 0 1 = 1", "forget 0 = 3",
                "giveBack 0 = 6", "count 9 = 2", "holesAt 0 1 = 4", "holesAt 1 0 = 5", "holesAt 1 1 = 10");
        Rows.run("promise 11, a clerk and none", "clerk 0 = 0", "ask 0 7 = 7", "giveBack 0 = 3", "set 0 2 = 10",
                "ask 0 1 = 8", "close = 2", "count 9 = 2", "holesAt 0 0 = 9", "holesAt 0 1 = 9", "holesAt 0 3 = 0",
                "holesAt 1 0 = 10", "holesAt 1 1 = 10", "holesAt 1 3 = -4");
        Rows.run("promise 11, the same of both, at different times", "clerk 0 = 0", "ask 0 3 = 3", "makeVoid 1 = 0",
                "makeVoid 3 = 0", "close = 7", "count 9 = 3", "makeVoid 2 = 0", "count 9 = 2", "holesAt 0 0 = 1",
                "holesAt 0 1 = 3", "holesAt 1 0 = 4");
        Rows.run("promise 11, something else between", "clerk 0 = 0", "ask 0 3 = 3", "makeVoid 1 = 0", "makeVoid 3 = 0",
                "holesAt 0 1 = 1", "holesAt 1 0 = 3", "holesAt 1 1 = 3");
        Rows.run("promise 11, the same of both over two blocks", "clerk 0 = 0", "ask 0 11 = 11", "makeVoid 10 = 0",
                "makeVoid 11 = 0", "count 9 = 1", "holesAt 0 0 = 10", "holesAt 0 1 = 11");
    }

    /** Promise 11: rows that begin with 1 or end with 600. */
    private static void rowsOfHolesAtTheEnds() {
        Rows.runAfter("promise 11, 1 and 600", Beginnings.NONE_LEFT, "makeVoid 600 = 0", "makeVoid 1 = 0", "count 9 = 2",
                "holesAt 0 0 = 1", "holesAt 0 1 = 1", "holesAt 1 0 = 600", "holesAt 1 1 = 600", "holesAt 2 0 = -4",
                "makeVoid 599 = 0", "holesAt 1 0 = 599", "holesAt 1 1 = 600");
    }

    /** Promise 12: "INVALID_ARGUMENT if an argument is out of range"; that rather than NOT_FOUND. */
    private static void freeOutOfRange() {
        Rows.runAfter("promise 12, the ends of what", Beginnings.MIXED, "freeAt 0 0 = 32", "freeAt 0 1 = 40");
        Rows.changesNothing("promise 12, index", Beginnings.MIXED, "freeAt -1 0 = -1", "freeAt -2147483648 1 = -1",
                "freeAt -1 2 = -1");
        Rows.refusesOutside("promise 12, what", Beginnings.MIXED, "freeAt 0 #", 0, 1);
        Rows.refusesOutside("promise 12, what of a row that there is not", Beginnings.MIXED, "freeAt 1 #", 0, 1);
        Rows.refusesOutside("promise 12, what without free ones", Beginnings.NOTHING, "freeAt 0 #", 0, 1);
    }

    /** Promise 12: "NOT_FOUND if there are not so many". */
    private static void notSoManyFreeRows() {
        Rows.changesNothing("promise 12, none", Beginnings.NOTHING, "freeAt 0 0 = -4", "freeAt 0 1 = -4", "freeAt 1 0 = -4");
        Rows.changesNothing("promise 12, one", Beginnings.MIXED, "freeAt 1 0 = -4", "freeAt 1 1 = -4",
                "freeAt 2147483647 1 = -4");
        Rows.runAfter("promise 12, two", Beginnings.MIXED, "giveBack 0 = 7", "freeAt 0 0 = 4", "freeAt 1 0 = 32",
                "freeAt 1 1 = 40", "freeAt 2 0 = -4", "freeAt 2 1 = -4");
        Rows.runAfter("promise 12, none any more", Beginnings.MIXED, "ask 3 1 = 32", "freeAt 0 0 = -4");
    }

    /** Promise 12: "one behind another, as many as possible". */
    private static void freeRowsEnd() {
        Rows.run("promise 12, a row of one", "clerk 0 = 0", "ask 0 9 = 9", "giveBack 0 = 1", "freeAt 0 0 = 10",
                "freeAt 0 1 = 10", "freeAt 1 0 = -4");
        Rows.run("promise 12, one number between", "clerk 0 = 0", "clerk 0 = 1", "set 0 2 = 10", "ask 0 1 = 1",
                "ask 1 1 = 3", "giveBack 0 = 1", "giveBack 1 = 1", "freeAt 0 0 = 2", "freeAt 0 1 = 2", "freeAt 1 0 = 4",
                "freeAt 1 1 = 4", "freeAt 2 0 = -4");
        Rows.run("promise 12, what another clerk gave back is the same row", "clerk 0 = 0", "clerk 1 = 1", "ask 0 1 = 1",
                "giveBack 0 = 9", "set 0 4 = 10", "ask 1 1 = 2", "freeAt 0 0 = 6", "giveBack 1 = 3", "freeAt 0 0 = 3",
                "freeAt 0 1 = 10", "freeAt 1 0 = -4");
        Rows.runAfter("promise 12, up to 600", Beginnings.FIFTY_LEFT, "ask 1 1 = 551", "giveBack 1 = 49",
                "freeAt 0 0 = 552", "freeAt 0 1 = 600", "freeAt 1 0 = -4");
    }

    /** Promise 13: "turn: 0 or more", "INVALID_ARGUMENT if turn is negative". */
    private static void turnOutOfRange() {
        Rows.runAfter("promise 13, the first", Beginnings.MIXED, "turnAt 0 = 1", "turnAt 1 = 2");
        Rows.changesNothing("promise 13, negative", Beginnings.MIXED, "turnAt -1 = -1", "turnAt -2147483648 = -1");
        Rows.changesNothing("promise 13, negative, none given", Beginnings.NOTHING, "turnAt -1 = -1");
    }

    /** Promise 13: "NOT_FOUND if there were not so many". */
    private static void notSoManyTurns() {
        Rows.runAfter("promise 13, the last", Beginnings.MIXED, "count 2 = 7", "turnAt 5 = 21", "turnAt 6 = 31",
                "turnAt 7 = -4");
        Rows.changesNothing("promise 13, not so many", Beginnings.MIXED, "turnAt 7 = -4", "turnAt 600 = -4",
                "turnAt 2147483647 = -4");
        Rows.changesNothing("promise 13, none", Beginnings.NOTHING, "turnAt 0 = -4", "turnAt 1 = -4");
        Rows.runAfter("promise 13, the last of all", Beginnings.NONE_LEFT, "turnAt 598 = 599", "turnAt 599 = 600",
                "turnAt 600 = -4", "turnAt 601 = -4");
    }

    /** Promise 14: "from: 1 to 600", "to: from to 600". */
    private static void amongOutOfRange() {
        Rows.run("promise 14, the ends", "among 1 600 0 = 600", "among 1 1 0 = 1", "among 600 600 0 = 1",
                "among 1 2 0 = 2", "among 2 600 0 = 599", "among 1 599 0 = 599");
        Rows.refusesOutside("promise 14, from", Beginnings.MIXED, "among # 600 0", 1, 600);
        Rows.refusesOutside("promise 14, to", Beginnings.MIXED, "among 1 # 0", 1, 600);
        Rows.refusesOutside("promise 14, to below from", Beginnings.MIXED, "among 300 # 0", 300, 600);
        Rows.run("promise 14, from and to", "among 299 300 0 = 2", "among 300 300 0 = 1", "among 301 300 0 = -1",
                "among 601 601 0 = -1", "among 0 0 0 = -1", "among 600 1 0 = -1");
    }

    /** Promise 14: "state: 0 to 4, or 10 plus a reason". */
    private static void amongStateOutOfRange() {
        Rows.refusesOutside("promise 14, state", Beginnings.MIXED, "among 1 600 #", 0, 4);
        Rows.refusesOutside("promise 14, reason", Beginnings.MIXED, "among 1 600 #", 10, 13);
        for (int state = 5; state <= 9; state++) {
            Rows.run("promise 14, between states and reasons", "among 1 600 " + state + " = -1");
        }
        for (int state = 14; state <= 30; state++) {
            Rows.run("promise 14, behind the reasons", "among 1 600 " + state + " = -1");
        }
    }

    /** Promise 14: "Counts numbers from one to another one": both ends count. */
    private static void amongCounts() {
        String[] ahead = Rows.after(Beginnings.MIXED, "forget 1 = 2");
        Rows.runAfter("promise 14, states", ahead, "among 4 10 1 = 7", "among 3 10 1 = 7", "among 4 11 1 = 7",
                "among 5 10 1 = 6", "among 4 9 1 = 6", "among 32 40 3 = 9", "among 31 41 3 = 9", "among 33 40 3 = 8",
                "among 32 39 3 = 8", "among 40 41 0 = 1", "among 1 3 2 = 2", "among 2 2 2 = 0", "among 2 14 4 = 3");
        Rows.runAfter("promise 14, reasons", ahead, "among 2 2 12 = 1", "among 1 1 12 = 0", "among 3 3 12 = 0",
                "among 13 14 10 = 2", "among 14 14 10 = 1", "among 15 15 10 = 0", "among 12 12 10 = 0", "among 1 600 11 = 0",
                "among 1 600 13 = 0", "close = 31", "among 1 600 13 = 31", "among 32 40 13 = 9", "among 1 600 10 = 2");
        Rows.runAfter("promise 14, reasons at 1 and 600", Beginnings.NONE_LEFT, "makeVoid 1 = 0", "makeVoid 600 = 0",
                "among 1 600 12 = 2", "among 1 1 12 = 1", "among 600 600 12 = 1", "among 2 600 12 = 1", "among 1 599 12 = 1",
                "among 2 599 12 = 0", "among 1 600 4 = 2", "among 1 600 2 = 598");
    }

    /** Promise 15: "INVALID_ARGUMENT if what is out of range": 0 to 11 and 20 to 22. */
    private static void countOutOfRange() {
        Rows.refusesOutside("promise 15, what", Beginnings.MIXED, "count #", 0, 11);
        Rows.refusesOutside("promise 15, what", Beginnings.MIXED, "count #", 20, 22);
        for (int what = 12; what <= 19; what++) {
            Rows.run("promise 15, between", "count " + what + " = -1");
        }
        Rows.runAfter("promise 15, all there are", Beginnings.MIXED, "count 0 = 4", "count 1 = 0", "count 2 = 7",
                "count 3 = 24", "count 4 = 9", "count 5 = 1", "count 6 = 41", "count 7 = 0", "count 8 = 1", "count 9 = 1",
                "count 10 = 4", "count 11 = 18", "count 20 = 10", "count 21 = 1", "count 22 = 4");
    }

    /** Promise 15: "6: the lowest new number, 601 if there is none". */
    private static void lowestNewNumber() {
        Rows.run("promise 15, all are new", "count 6 = 1");
        Rows.runAfter("promise 15, the last one is new", Beginnings.ONE_LEFT, "count 6 = 600");
        Rows.runAfter("promise 15, none is new", Beginnings.NONE_LEFT, "count 6 = 601");
        Rows.runAfter("promise 15, none is new, though some are held", Beginnings.FIFTY_LEFT, "ask 0 1 = 551",
                "count 6 = 601", "giveBack 0 = 49", "count 6 = 601", "close = 49", "count 6 = 601");
    }

    /** Promise 15: "2: numbers given so far, void ones, too", "7: late numbers". */
    private static void lateNumbers() {
        String[] ahead = {"clerk 0 = 0", "clerk 0 = 1", "ask 0 9 = 9", "ask 1 1 = 11"};
        Rows.runAfter("promise 15, none late", ahead, "count 2 = 10", "count 7 = 0");
        Rows.runAfter("promise 15, one late", ahead, "ask 0 1 = 10", "count 2 = 11", "count 7 = 1", "makeVoid 10 = 0",
                "count 2 = 11", "count 7 = 1");
        Rows.runAfter("promise 15, most are late", ahead, "undo = 3", "undo = 2", "ask 1 1 = 1", "ask 0 1 = 11",
                "ask 1 9 = 10", "count 7 = 9");
    }

    /** Promise 15: "8: the greatest n for which 1 to n are all given, and not void, 0 if there is none". */
    private static void givenWithoutGap() {
        Rows.run("promise 15, none given", "count 8 = 0", "clerk 0 = 0", "ask 0 1 = 1", "count 8 = 1", "ask 0 1 = 2",
                "count 8 = 2", "makeVoid 2 = 0", "count 8 = 1", "makeVoid 1 = 0", "count 8 = 0");
        Rows.runAfter("promise 15, all given", Beginnings.NONE_LEFT, "count 8 = 600", "makeVoid 600 = 0", "count 8 = 599",
                "makeVoid 599 = 0", "count 8 = 598", "makeVoid 1 = 0", "count 8 = 0");
        Rows.run("promise 15, up to a held one", "clerk 0 = 0", "clerk 0 = 1", "ask 0 9 = 9", "ask 1 1 = 11", "count 8 = 9",
                "ask 0 1 = 10", "count 8 = 11");
    }

    /** Promise 15: the other counts, where they are greatest or none. */
    private static void countsAtTheirEnds() {
        Rows.run("promise 15, none", "count 0 = 0", "count 1 = 0", "count 2 = 0", "count 3 = 0", "count 4 = 0", "count 5 = 0",
                "count 7 = 0", "count 9 = 0", "count 10 = 0", "count 11 = 0");
        Rows.runAfter("promise 15, all given", Beginnings.NONE_LEFT, "count 2 = 600", "count 3 = 0", "count 4 = 0",
                "count 5 = 0");
        Rows.runAfter("promise 15, six clerks", Beginnings.SIX_CLERKS, "count 0 = 6", "count 10 = 4");
        Rows.runAfter("promise 15, the longest text", Beginnings.FULL_TEXT, "count 11 = 80");
    }

    /** "The changes are the calls of clerk, ask, forget, giveBack, makeVoid, close, set and play": no questions. */
    private static void questionsChangeNothing() {
        Rows.changesNothing("promises 9 to 15", Beginnings.MIXED, "numberOf 2 5 = 0", "clerkOf 1 4 = 14", "holesAt 0 1 = 2",
                "freeAt 0 1 = 40", "turnAt 6 = 31", "among 1 600 12 = 1", "count 9 = 1");
    }
}
