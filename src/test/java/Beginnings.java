/** Runs of calls that several tests begin with. */
final class Beginnings {
    static final String[] NOTHING = {};

    /**
     * Each kind of clerk, and numbers of each state: 1, 3, 11, 12, 21 and 31 are given, 2 is void, the clerks
     * 0, 1 and 2 hold 4 to 10, 13 to 20 and 22 to 30, the clerk 3 holds nothing, 32 to 40 are free, and the
     * text has its fault at 11.
     */
    static final String[] MIXED = {"clerk 0 = 0", "clerk 1 = 1", "clerk 2 = 2", "clerk 0 = 3", "ask 0 3 = 3",
        "ask 1 2 = 12", "ask 2 1 = 21", "ask 3 1 = 31", "giveBack 3 = 9", "makeVoid 2 = 0", "text clerk lazy;void 2;"};

    /** Six clerks, two of each kind; the clerk 5 holds 2 to 10. */
    static final String[] SIX_CLERKS = {"clerk 0 = 0", "clerk 0 = 1", "clerk 1 = 2", "clerk 1 = 3", "clerk 2 = 4",
        "clerk 2 = 5", "ask 5 1 = 1"};

    /**
     * The clerk 0, a careful one, has given 1 to 550 and holds nothing; the clerk 1, a dreamy one, has given
     * none; 551 to 600 are new, and one block may hold them all.
     */
    static final String[] FIFTY_LEFT = {"clerk 0 = 0", "clerk 2 = 1", "set 0 50 = 10", "ask 0 50 = 50", "ask 0 50 = 100",
        "ask 0 50 = 150", "ask 0 50 = 200", "ask 0 50 = 250", "ask 0 50 = 300", "ask 0 50 = 350", "ask 0 50 = 400",
        "ask 0 50 = 450", "ask 0 50 = 500", "ask 0 50 = 550"};

    /** The same, but only 600 is new. */
    static final String[] ONE_LEFT = Rows.after(FIFTY_LEFT, "set 0 49 = 50", "ask 0 49 = 599");

    /** All numbers are given. */
    static final String[] NONE_LEFT = Rows.after(FIFTY_LEFT, "ask 0 50 = 600");

    /** A text of 80 characters, which has its fault at 78. */
    static final String[] FULL_TEXT = {"clerk 2 = 0", "ask 0 1 = 1",
        "text close;close;close;close;close;close;close;close;close;close;close;close;close;cl"};

    private Beginnings() {
    }
}
