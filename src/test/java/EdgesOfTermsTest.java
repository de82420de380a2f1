/** The boundary cases that the document's "Terms" name: a test for each sentence. */
public final class EdgesOfTermsTest {
    public static void main(String[] args) {
        numbersAreOneTo600();
        atFirstAllAreNew();
        oneBlockAtMost();
        lowestFreeOnesFirst();
        rowOfFreeOnesEnds();
        otherwiseNewOnes();
        atMostAsManyAsTheSetting();
        sixClerksFromZero();
        markOfACarefulClerk();
        markOfALazyClerkIsPassed();
        markOfALazyClerkEndsWithTheBlock();
        markOfADreamyClerk();
        markCountsForOneBlock();
        upToTheMark();
        givenBack();
        givenOnesCanBecomeVoid();
        closedDays();
        reasonsAndClerksOfHoles();
        holesStayHoles();
        settings();
        turnsFromZero();
        lateOnes();
        endsOfUse();
        Rows.end();
    }

    /** "The numbers of the office are 1 to 600." */
    private static void numbersAreOneTo600() {
        Rows.run("numbers are 1 to 600", "among 1 600 0 = 600", "numberOf 1 0 = 0", "numberOf 600 0 = 0",
                "numberOf 0 0 = -1", "numberOf 601 0 = -1", "clerk 0 = 0", "next 0 = 1", "ask 0 1 = 1",
                "numberOf 1 0 = 2");
        Rows.runAfter("600 is the last one", Beginnings.FIFTY_LEFT, "ask 0 48 = 598", "ask 0 1 = 599", "next 0 = 600",
                "ask 0 1 = 600", "numberOf 600 0 = 2", "next 0 = -3", "ask 0 1 = -3");
    }

    /** "At first all are new." */
    private static void atFirstAllAreNew() {
        Rows.run("at first all are new", "among 1 600 0 = 600", "among 1 600 1 = 0", "among 1 600 2 = 0",
                "among 1 600 3 = 0", "among 1 600 4 = 0", "count 6 = 1");
    }

    /** "A clerk holds one block at most": the next one comes when the last number of this one is given. */
    private static void oneBlockAtMost() {
        Rows.run("one block at most", "clerk 0 = 0", "clerkOf 0 8 = 0", "ask 0 9 = 9", "clerkOf 0 8 = 1",
                "clerkOf 0 1 = 1", "clerkOf 0 2 = 10", "clerkOf 0 3 = 10", "ask 0 1 = 10", "clerkOf 0 8 = 1",
                "clerkOf 0 1 = 0", "count 6 = 11", "ask 0 1 = 11", "clerkOf 0 8 = 2", "clerkOf 0 1 = 9",
                "clerkOf 0 2 = 12", "clerkOf 0 3 = 20", "count 6 = 21");
        Rows.run("one block at most, within a call", "clerk 0 = 0", "ask 0 9 = 9", "ask 0 2 = 11",
                "clerkOf 0 8 = 2", "clerkOf 0 1 = 9");
        Rows.run("no new block for a held one", "clerk 0 = 0", "clerk 0 = 1", "ask 0 9 = 9", "ask 1 1 = 11",
                "giveBack 1 = 9", "ask 0 1 = 10", "ask 0 1 = 12");
    }

    /** "If the setting 1 is 1 and there are free numbers, the lowest of them." */
    private static void lowestFreeOnesFirst() {
        String[] ahead = {"clerk 0 = 0", "clerk 0 = 1", "set 0 3 = 10", "ask 0 1 = 1", "ask 1 2 = 5"};
        Rows.runAfter("no free ones", ahead, "clerk 0 = 2", "ask 2 1 = 7");
        Rows.runAfter("one row of free ones", ahead, "giveBack 1 = 1", "clerk 0 = 2", "ask 2 1 = 6", "ask 2 1 = 7");
        Rows.runAfter("two rows, the lower one given back last", ahead, "giveBack 1 = 1", "giveBack 0 = 2",
                "clerk 0 = 2", "ask 2 1 = 2", "ask 2 1 = 3", "ask 2 1 = 6", "ask 2 1 = 7");
        Rows.runAfter("two rows, the lower one given back first", ahead, "giveBack 0 = 2", "giveBack 1 = 1",
                "clerk 0 = 2", "ask 2 4 = 7");
        Rows.runAfter("free ones that are not handed out again", ahead, "giveBack 0 = 2", "set 1 0 = 1",
                "clerk 0 = 2", "ask 2 1 = 7", "freeAt 0 0 = 2", "freeAt 0 1 = 3");
        Rows.runAfter("free ones that are handed out again after all", ahead, "giveBack 0 = 2", "set 1 0 = 1",
                "set 1 1 = 0", "clerk 0 = 2", "ask 2 1 = 2");
    }

    /** "And the free ones right behind it, one behind another": 8 to 10 are free, 11 is not. */
    private static void rowOfFreeOnesEnds() {
        String[] ahead = {"clerk 0 = 0", "clerk 0 = 1", "ask 0 7 = 7", "giveBack 0 = 3"};
        Rows.runAfter("a row longer than the block", ahead, "set 0 2 = 10", "ask 1 1 = 8", "clerkOf 1 3 = 9",
                "freeAt 0 0 = 10", "freeAt 0 1 = 10", "ask 1 2 = 10", "ask 1 1 = 11");
        Rows.runAfter("a row as long as the block", ahead, "set 0 3 = 10", "ask 1 1 = 8", "clerkOf 1 3 = 10",
                "freeAt 0 0 = -4", "count 6 = 11");
        Rows.runAfter("a row shorter than the block, new ones behind", ahead, "set 0 4 = 10", "ask 1 1 = 8",
                "clerkOf 1 3 = 10", "freeAt 0 0 = -4", "count 6 = 11", "ask 1 3 = 11");
        Rows.runAfter("a row shorter than the block, given ones behind", ahead, "set 1 0 = 1", "ask 0 1 = 11",
                "set 1 1 = 0", "ask 1 1 = 8", "clerkOf 1 3 = 10", "ask 1 3 = 21");
        Rows.run("a row of one", "clerk 0 = 0", "ask 0 9 = 9", "giveBack 0 = 1", "ask 0 1 = 10",
                "clerkOf 0 1 = 0", "clerkOf 0 8 = 2", "ask 0 1 = 11");
    }

    /** "Otherwise the lowest new number and the new ones behind it." */
    private static void otherwiseNewOnes() {
        Rows.runAfter("as many new ones as a block has", Beginnings.FIFTY_LEFT, "ask 1 1 = 551", "clerkOf 1 3 = 600",
                "count 6 = 601", "next 0 = -3");
        Rows.runAfter("one more", Beginnings.FIFTY_LEFT, "set 0 49 = 50", "ask 1 1 = 551", "clerkOf 1 3 = 599",
                "count 6 = 600", "next 0 = 600");
        Rows.runAfter("one less", Beginnings.FIFTY_LEFT, "set 0 1 = 50", "ask 0 1 = 551", "set 0 50 = 1",
                "ask 1 1 = 552", "clerkOf 1 1 = 48", "clerkOf 1 3 = 600", "count 6 = 601", "next 0 = -3");
        Rows.runAfter("the last new one", Beginnings.ONE_LEFT, "count 6 = 600", "ask 1 1 = 600", "clerkOf 1 1 = 0",
                "clerkOf 1 8 = 1", "count 6 = 601");
    }

    /** "At most as many as the setting 0 tells." */
    private static void atMostAsManyAsTheSetting() {
        Rows.run("blocks of 1", "clerk 0 = 0", "set 0 1 = 10", "ask 0 1 = 1", "clerkOf 0 1 = 0", "count 6 = 2",
                "ask 0 2 = 3", "clerkOf 0 8 = 3");
        Rows.run("blocks of 2", "clerk 0 = 0", "set 0 2 = 10", "ask 0 1 = 1", "clerkOf 0 1 = 1", "count 6 = 3");
        Rows.run("blocks of 10, at first", "clerk 0 = 0", "ask 0 1 = 1", "clerkOf 0 1 = 9", "count 6 = 11");
        Rows.run("blocks of 50", "clerk 0 = 0", "set 0 50 = 10", "ask 0 1 = 1", "clerkOf 0 1 = 49", "count 6 = 51",
                "ask 0 49 = 50", "clerkOf 0 8 = 1", "ask 0 1 = 51", "clerkOf 0 8 = 2");
        Rows.run("a held block stays as it is", "clerk 0 = 0", "ask 0 1 = 1", "set 0 1 = 10", "clerkOf 0 1 = 9");
    }

    /** "There are at most 6 clerks, numbered from 0, each careful (0), lazy (1) or dreamy (2)." */
    private static void sixClerksFromZero() {
        Rows.run("the first ones", "clerkOf 0 0 = -1", "clerk 2 = 0", "clerkOf 0 0 = 2", "clerkOf 1 0 = -1");
        Rows.run("the last ones", "clerk 0 = 0", "clerk 0 = 1", "clerk 0 = 2", "clerk 0 = 3", "clerk 2 = 4",
                "clerkOf 5 0 = -1", "count 0 = 5", "clerk 1 = 5", "clerkOf 5 0 = 1", "clerkOf 6 0 = -1", "count 0 = 6",
                "clerk 1 = -3", "clerkOf 6 0 = -1", "count 0 = 6");
    }

    /** "A careful clerk: whenever a number is given, the mark is this number." */
    private static void markOfACarefulClerk() {
        Rows.run("mark of a careful clerk", "clerk 0 = 0", "ask 0 1 = 1", "clerkOf 0 4 = 1", "ask 0 1 = 2",
                "clerkOf 0 4 = 2", "ask 0 7 = 9", "clerkOf 0 4 = 9", "forget 0 = 0", "ask 0 1 = 10",
                "clerkOf 0 4 = -4", "ask 0 1 = 11", "clerkOf 0 4 = 11");
    }

    /** "Whenever a number is given that is above the mark": not one below it, nor the mark itself. */
    private static void markOfALazyClerkIsPassed() {
        Rows.run("mark of a lazy clerk", "clerk 1 = 0", "ask 0 1 = 1", "clerkOf 0 4 = 4", "ask 0 2 = 3",
                "clerkOf 0 4 = 4", "ask 0 1 = 4", "clerkOf 0 4 = 4", "ask 0 1 = 5", "clerkOf 0 4 = 8");
        Rows.run("the least to write down", "clerk 1 = 0", "set 2 2 = 4", "ask 0 1 = 1", "clerkOf 0 4 = 2",
                "ask 0 1 = 2", "clerkOf 0 4 = 2", "ask 0 1 = 3", "clerkOf 0 4 = 4");
        Rows.run("the most to write down", "clerk 1 = 0", "set 2 10 = 4", "set 0 50 = 10", "ask 0 1 = 1",
                "clerkOf 0 4 = 10", "ask 0 9 = 10", "clerkOf 0 4 = 10", "ask 0 1 = 11", "clerkOf 0 4 = 20");
        Rows.run("a setting counts from the next mark on", "clerk 1 = 0", "ask 0 1 = 1", "set 2 2 = 4",
                "clerkOf 0 4 = 4", "ask 0 3 = 4", "clerkOf 0 4 = 4", "ask 0 1 = 5", "clerkOf 0 4 = 6");
    }

    /** "This number plus the setting 2 less 1, but at most the last number of the block." */
    private static void markOfALazyClerkEndsWithTheBlock() {
        String[] ahead = {"clerk 1 = 0"};
        Rows.runAfter("one below the last one", ahead, "set 0 5 = 10", "ask 0 1 = 1", "clerkOf 0 4 = 4",
                "clerkOf 0 3 = 5", "forget 0 = 3", "clerkOf 0 1 = 1");
        Rows.runAfter("the last one", ahead, "set 0 4 = 10", "ask 0 1 = 1", "clerkOf 0 4 = 4", "clerkOf 0 3 = 4",
                "forget 0 = 3", "clerkOf 0 1 = 0");
        Rows.runAfter("one above the last one", ahead, "set 0 3 = 10", "ask 0 1 = 1", "clerkOf 0 4 = 3",
                "clerkOf 0 3 = 3", "forget 0 = 2", "numberOf 4 0 = 0");
        Rows.runAfter("later in a block", ahead, "set 0 6 = 10", "ask 0 5 = 5", "clerkOf 0 4 = 6", "clerkOf 0 3 = 6");
        Rows.runAfter("in a block of free ones", ahead, "ask 0 7 = 7", "giveBack 0 = 3", "ask 0 1 = 8",
                "clerkOf 0 4 = 10", "forget 0 = 2", "count 6 = 11");
        Rows.runAfter("at 600", Beginnings.FIFTY_LEFT, "clerk 1 = 2", "ask 2 48 = 598", "clerkOf 2 4 = 598",
                "ask 2 1 = 599", "clerkOf 2 4 = 600", "forget 2 = 1", "numberOf 600 4 = 0", "count 6 = 601");
    }

    /** "A dreamy clerk: whenever the clerk gets a block, the mark is its last number." */
    private static void markOfADreamyClerk() {
        Rows.run("mark of a dreamy clerk", "clerk 2 = 0", "ask 0 1 = 1", "clerkOf 0 4 = 10", "ask 0 8 = 9",
                "clerkOf 0 4 = 10", "ask 0 1 = 10", "clerkOf 0 4 = -4", "ask 0 1 = 11", "clerkOf 0 4 = 20",
                "set 0 2 = 10", "clerkOf 0 4 = 20", "giveBack 0 = 9", "ask 0 1 = 12", "clerkOf 0 4 = 13");
        Rows.run("a block of one", "clerk 2 = 0", "set 0 1 = 10", "ask 0 1 = 1", "clerkOf 0 4 = -4", "forget 0 = -2");
    }

    /** "The mark of one block does not count for the next one", "the number ahead of its first one". */
    private static void markCountsForOneBlock() {
        Rows.run("a lazy clerk's lower block", "clerk 0 = 0", "clerk 1 = 1", "ask 0 1 = 1", "ask 1 1 = 11",
                "clerkOf 1 4 = 14", "giveBack 1 = 9", "giveBack 0 = 9", "ask 1 1 = 2", "clerkOf 1 4 = 5",
                "forget 1 = 3");
        Rows.run("a lazy clerk's next block", "clerk 1 = 0", "ask 0 9 = 9", "clerkOf 0 4 = 10", "ask 0 2 = 11",
                "clerkOf 0 4 = 14");
        Rows.run("a careful clerk's lower block", "clerk 0 = 0", "clerk 0 = 1", "ask 0 1 = 1", "ask 1 1 = 11",
                "giveBack 1 = 9", "giveBack 0 = 9", "ask 1 1 = 2", "clerkOf 1 4 = 2", "forget 1 = 0");
        Rows.run("a dreamy clerk's lower block", "clerk 0 = 0", "clerk 2 = 1", "ask 0 1 = 1", "ask 1 1 = 11",
                "giveBack 1 = 9", "giveBack 0 = 9", "ask 1 1 = 2", "clerkOf 1 4 = 10", "forget 1 = 8");
    }

    /** "The numbers that the clerk holds up to the mark are holes; those above the mark are held as before." */
    private static void upToTheMark() {
        String[] ahead = {"clerk 1 = 0"};
        Rows.runAfter("the mark is below the lowest one", ahead, "ask 0 4 = 4", "clerkOf 0 4 = 4", "forget 0 = 0",
                "clerkOf 0 2 = 5", "clerkOf 0 3 = 10", "clerkOf 0 4 = 4", "count 5 = 0");
        Rows.runAfter("the mark is the lowest one", ahead, "ask 0 3 = 3", "clerkOf 0 4 = 4", "forget 0 = 1",
                "numberOf 4 0 = 4", "numberOf 5 0 = 1", "clerkOf 0 2 = 5", "clerkOf 0 3 = 10", "clerkOf 0 4 = 4");
        Rows.runAfter("the mark is one below the highest one", ahead, "set 2 9 = 4", "ask 0 1 = 1",
                "clerkOf 0 4 = 9", "forget 0 = 8", "clerkOf 0 1 = 1", "clerkOf 0 2 = 10", "ask 0 1 = 10");
        Rows.runAfter("the mark is the highest one", ahead, "set 2 10 = 4", "ask 0 1 = 1", "clerkOf 0 4 = 10",
                "forget 0 = 9", "clerkOf 0 1 = 0", "numberOf 10 0 = 4", "numberOf 11 0 = 0", "ask 0 1 = 11");
        Rows.runAfter("a second time", ahead, "ask 0 1 = 1", "forget 0 = 3", "forget 0 = 0", "clerkOf 0 1 = 6",
                "ask 0 1 = 5", "clerkOf 0 4 = 8", "forget 0 = 3");
    }

    /** "The numbers that the clerk holds are free, if the setting 1 is 1, and holes otherwise." */
    private static void givenBack() {
        String[] ahead = {"clerk 0 = 0", "ask 0 3 = 3"};
        Rows.runAfter("given back, setting 1 is 1", ahead, "giveBack 0 = 7", "among 4 10 3 = 7", "count 4 = 7",
                "count 5 = 0", "numberOf 3 0 = 2", "numberOf 11 0 = 0");
        Rows.runAfter("given back, setting 1 is 0", ahead, "set 1 0 = 1", "giveBack 0 = 7", "among 4 10 11 = 7",
                "count 4 = 0", "count 5 = 7", "numberOf 3 0 = 2", "numberOf 11 0 = 0");
        Rows.run("one number given back", "clerk 0 = 0", "ask 0 9 = 9", "giveBack 0 = 1", "freeAt 0 0 = 10",
                "freeAt 0 1 = 10");
    }

    /** "A number that is given can become void; it is a hole then." */
    private static void givenOnesCanBecomeVoid() {
        Rows.runAfter("a given one becomes void", Beginnings.MIXED, "numberOf 1 0 = 2", "makeVoid 1 = 0",
                "numberOf 1 0 = 4", "numberOf 1 4 = 2");
        Rows.changesNothing("a new, held, free one or a hole does not", Beginnings.MIXED, "makeVoid 41 = -2",
                "makeVoid 4 = -2", "makeVoid 32 = -2", "makeVoid 2 = -2");
    }

    /** "All numbers that clerks hold, and all free ones, are holes, and the next day begins (.. the day 0)." */
    private static void closedDays() {
        Rows.run("the first day", "count 1 = 0", "clerk 0 = 0", "ask 0 1 = 1", "numberOf 1 3 = 0", "close = 9",
                "count 1 = 1", "ask 0 1 = 11", "numberOf 11 3 = 1", "numberOf 1 3 = 0");
        Rows.run("nothing to close", "close = 0", "count 1 = 1", "close = 0", "count 1 = 2", "among 1 600 0 = 600");
        Rows.runAfter("a day is closed", Beginnings.MIXED, "among 1 600 1 = 24", "among 1 600 3 = 9", "close = 33",
                "among 1 600 1 = 0", "among 1 600 3 = 0", "among 1 600 13 = 33", "among 1 600 2 = 6",
                "among 1 600 12 = 1", "among 41 600 0 = 560");
    }

    /** "A hole has a reason .. and a clerk: who held it, or gave it; none if it was free." */
    private static void reasonsAndClerksOfHoles() {
        Rows.runAfter("reasons 0 and 2", Beginnings.MIXED, "forget 2 = 9", "numberOf 22 4 = 0", "numberOf 22 1 = 2",
                "numberOf 2 4 = 2", "numberOf 2 1 = 0");
        Rows.runAfter("reasons 1 and 3", Beginnings.MIXED, "set 1 0 = 1", "giveBack 1 = 8", "numberOf 13 4 = 1",
                "numberOf 13 1 = 1", "close = 25", "numberOf 4 4 = 3", "numberOf 4 1 = 0", "numberOf 32 4 = 3",
                "numberOf 32 1 = -4", "numberOf 13 4 = 1", "numberOf 2 4 = 2");
    }

    /** "Holes stay holes." */
    private static void holesStayHoles() {
        String[] ahead = {"clerk 1 = 0", "clerk 0 = 1", "ask 0 1 = 1", "forget 0 = 3", "makeVoid 1 = 0"};
        Rows.runAfter("holes stay holes", ahead, "giveBack 0 = 6", "numberOf 4 4 = 0", "next 1 = 5", "close = 6",
                "numberOf 1 4 = 2", "numberOf 4 4 = 0", "ask 1 1 = 11", "giveBack 1 = 9", "close = 9",
                "numberOf 4 4 = 0", "numberOf 5 4 = 3", "count 5 = 19", "ask 0 11 = 31", "makeVoid 4 = -2",
                "among 1 10 4 = 10");
    }

    /** "0 the length of blocks (1 to 50; 10), 1 whether free .. (0 or 1; 1), 2 how many .. (2 to 10; 4)." */
    private static void settings() {
        Rows.run("first values", "count 20 = 10", "count 21 = 1", "count 22 = 4");
        Rows.run("the least values", "set 0 1 = 10", "set 1 0 = 1", "set 2 2 = 4", "count 20 = 1", "count 21 = 0",
                "count 22 = 2");
        Rows.run("the greatest values", "set 0 50 = 10", "set 1 1 = 1", "set 2 10 = 4", "count 20 = 50", "count 21 = 1",
                "count 22 = 10");
        Rows.refusesOutside("the length of blocks", Beginnings.MIXED, "set 0 #", 1, 50);
        Rows.refusesOutside("whether free ones are handed out", Beginnings.MIXED, "set 1 #", 0, 1);
        Rows.refusesOutside("how many a lazy clerk writes down", Beginnings.MIXED, "set 2 #", 2, 10);
    }

    /** "The first one that was ever given has the turn 0, the next one the turn 1, and so on." */
    private static void turnsFromZero() {
        Rows.run("turns", "clerk 0 = 0", "clerk 0 = 1", "turnAt 0 = -4", "ask 0 1 = 1", "numberOf 1 2 = 0",
                "turnAt 0 = 1", "turnAt 1 = -4", "ask 1 1 = 11", "numberOf 11 2 = 1", "turnAt 1 = 11", "close = 18",
                "ask 0 1 = 21", "numberOf 21 2 = 2", "turnAt 2 = 21");
        Rows.runAfter("the last turn", Beginnings.NONE_LEFT, "numberOf 600 2 = 599", "turnAt 599 = 600",
                "turnAt 600 = -4");
    }

    /** "A number that was given (void ones, too) is late if a greater one was given ahead of it." */
    private static void lateOnes() {
        String[] ahead = {"clerk 0 = 0", "clerk 0 = 1", "ask 0 9 = 9", "ask 1 1 = 11"};
        Rows.runAfter("a greater one ahead", ahead, "ask 0 1 = 10", "numberOf 10 5 = 1", "numberOf 11 5 = 0",
                "numberOf 9 5 = 0", "numberOf 1 5 = 0", "count 7 = 1");
        Rows.runAfter("a greater one behind", ahead, "numberOf 9 5 = 0", "count 7 = 0", "ask 1 1 = 12",
                "numberOf 11 5 = 0", "count 7 = 0");
        Rows.runAfter("a greater one ahead that is void", ahead, "makeVoid 11 = 1", "ask 0 1 = 10",
                "numberOf 10 5 = 1", "count 7 = 1");
        Rows.runAfter("a late one that is void", ahead, "ask 0 1 = 10", "makeVoid 10 = 0", "numberOf 10 5 = 1",
                "count 7 = 1");
        Rows.runAfter("a greater one that is held or a hole, but was not given", ahead, "set 0 1 = 10",
                "giveBack 1 = 9", "ask 0 1 = 10", "ask 1 1 = 12", "numberOf 12 5 = 0", "close = 8", "ask 0 1 = 21",
                "numberOf 21 5 = 0", "count 7 = 1");
    }

    /** "An object is used for at most 512 calls": the last ones answer as the first ones do. */
    private static void endsOfUse() {
        String[] rows = new String[512];
        rows[0] = "clerk 1 = 0";
        for (int i = 1; i < 509; i++) {
            rows[i] = "close = 0";
        }
        rows[509] = "count 1 = 508";
        rows[510] = "ask 0 1 = 1";
        rows[511] = "numberOf 1 3 = 508";
        Rows.run("the call 512", rows);
    }
}
