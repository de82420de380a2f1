/** Promises 1 to 8: a new object, and the calls that change it. */
public final class ChangesTest {
    public static void main(String[] args) {
        newObject();
        clerk();
        ask();
        askWithFreeOnes();
        askToTheLimit();
        forgetOfEachKind();
        forgetOfALazyClerk();
        giveBack();
        makeVoid();
        close();
        set();
        lastNumbers();
        changesAfterTrials();
        Rows.end();
    }

    private static void newObject() {
        Rows.run("promise 1", "count 0 = 0", "count 1 = 0", "count 2 = 0", "count 3 = 0", "count 4 = 0",
                "count 5 = 0", "count 6 = 1", "count 7 = 0", "count 8 = 0", "count 9 = 0", "count 10 = 0",
                "count 11 = 0", "count 20 = 10", "count 21 = 1", "count 22 = 4", "among 1 600 0 = 600",
                "numberOf 1 0 = 0", "numberOf 600 0 = 0", "undo = -2", "worst = -4", "turnAt 0 = -4");
    }

    private static void clerk() {
        Rows.run("promise 2", "clerk -1 = -1", "clerk 3 = -1", "count 0 = 0", "count 10 = 0",
                "clerk 2 = 0", "clerk 1 = 1", "clerk 0 = 2", "clerk 0 = 3", "clerk 0 = 4", "clerk 1 = 5",
                "clerkOf 0 0 = 2", "clerkOf 1 0 = 1", "clerkOf 2 0 = 0", "clerkOf 5 0 = 1", "clerkOf 5 1 = 0",
                "clerk 0 = -3", "clerk 3 = -1", "count 0 = 6", "count 10 = 4");
        Rows.run("promise 2, a place used again", "clerk 2 = 0", "ask 0 3 = 3", "undo = 1", "undo = 0",
                "clerk 0 = 0", "clerkOf 0 0 = 0", "clerkOf 0 1 = 0", "clerkOf 0 4 = -4", "clerkOf 0 5 = 0",
                "clerkOf 0 8 = 0", "clerkOf 0 9 = -4", "ask 0 1 = 1", "clerkOf 0 4 = 1");
        Rows.run("promise 2, a place used again that held", "clerk 2 = 0", "clerk 2 = 1", "ask 1 3 = 3",
                "undo = 2", "clerkOf 1 1 = 0", "undo = 1", "clerkOf 1 0 = -1", "clerk 1 = 1", "forget 1 = -2");
    }

    private static void ask() {
        Rows.run("promise 3", "ask 0 1 = -1", "clerk 0 = 0", "ask -1 1 = -1", "ask 1 1 = -1", "ask 0 0 = -1",
                "ask 0 51 = -1", "ask 0 -1 = -1", "count 10 = 1", "ask 0 50 = 50", "clerkOf 0 8 = 5",
                "clerkOf 0 1 = 0", "ask 0 1 = 51", "clerkOf 0 1 = 9", "clerkOf 0 2 = 52", "clerkOf 0 3 = 60",
                "clerkOf 0 8 = 6", "count 2 = 51");
        Rows.run("promise 3, two clerks", "clerk 0 = 0", "clerk 0 = 1", "ask 0 1 = 1", "ask 1 1 = 11",
                "ask 0 9 = 10", "ask 0 1 = 21", "ask 1 9 = 20", "clerkOf 1 1 = 0", "numberOf 20 1 = 1",
                "numberOf 21 1 = 0");
        Rows.run("promise 3, another length in between", "clerk 0 = 0", "ask 0 1 = 1", "set 0 2 = 10",
                "clerkOf 0 3 = 10", "ask 0 10 = 11", "clerkOf 0 3 = 12", "set 0 50 = 2", "ask 0 2 = 13",
                "clerkOf 0 3 = 62");
    }

    private static void askWithFreeOnes() {
        Rows.run("promise 3, free ones first", "clerk 0 = 0", "clerk 0 = 1", "ask 0 4 = 4", "ask 1 1 = 11",
                "giveBack 0 = 6", "ask 1 12 = 7", "numberOf 5 1 = 1", "numberOf 20 1 = 1", "clerkOf 1 9 = 7",
                "clerkOf 1 8 = 2", "ask 1 4 = 21", "clerkOf 1 3 = 30");
        Rows.run("promise 3, as many free ones as a block has", "clerk 0 = 0", "ask 0 1 = 1",
                "giveBack 0 = 9", "set 0 3 = 10", "ask 0 1 = 2", "clerkOf 0 3 = 4", "freeAt 0 0 = 5",
                "freeAt 0 1 = 10", "ask 0 3 = 5", "clerkOf 0 3 = 7");
        Rows.run("promise 3, free ones kept", "clerk 0 = 0", "ask 0 1 = 1", "giveBack 0 = 9", "set 1 0 = 1",
                "ask 0 1 = 11", "freeAt 0 1 = 10", "giveBack 0 = 9", "count 4 = 9", "set 1 1 = 0",
                "ask 0 1 = 2");
        Rows.run("promise 3, the lowest free row", "clerk 0 = 0", "clerk 0 = 1", "clerk 0 = 2",
                "ask 0 1 = 1", "ask 1 1 = 11", "ask 2 1 = 21", "giveBack 2 = 9", "giveBack 0 = 9",
                "next 1 = 12", "next 0 = 2", "ask 0 9 = 10", "next 0 = 22", "ask 0 10 = 31");
    }

    private static void askToTheLimit() {
        Rows.run("promise 3, all numbers", "clerk 0 = 0", "set 0 50 = 10", "ask 0 50 = 50", "ask 0 50 = 100",
                "ask 0 50 = 150", "ask 0 50 = 200", "ask 0 50 = 250", "ask 0 50 = 300", "ask 0 50 = 350",
                "ask 0 50 = 400", "ask 0 50 = 450", "ask 0 50 = 500", "ask 0 50 = 550", "set 0 48 = 50",
                "clerk 1 = 1", "ask 0 1 = 551", "ask 1 1 = 599", "clerkOf 1 1 = 1", "ask 1 3 = -3",
                "ask 1 51 = -1", "ask 1 2 = -3", "ask 1 1 = 600", "count 6 = 601", "ask 1 1 = -3", "ask 0 48 = -3",
                "next 1 = -3", "cost 1 0 = 0", "cost 1 1 = -3", "giveBack 0 = 47", "ask 1 48 = -3",
                "set 1 0 = 1", "ask 1 1 = -3", "next 1 = -3", "set 1 1 = 0", "next 1 = 552",
                "ask 1 47 = 598", "count 2 = 600", "count 8 = 600", "turnAt 599 = 598", "turnAt 600 = -4",
                "ask 0 1 = -3", "among 1 600 2 = 600");
        Rows.run("promise 3, more blocks than one at the end", "clerk 0 = 0", "clerk 2 = 1", "set 0 50 = 10",
                "ask 1 1 = 1", "ask 1 50 = 51", "ask 1 50 = 101", "ask 1 50 = 151", "ask 1 50 = 201",
                "ask 1 50 = 251", "ask 1 50 = 301", "ask 1 50 = 351", "ask 1 50 = 401", "ask 1 50 = 451",
                "ask 1 50 = 501", "ask 0 1 = 551", "ask 1 49 = 550", "ask 1 1 = -3", "count 3 = 49",
                "giveBack 0 = 49", "ask 1 50 = -3", "ask 1 49 = 600", "clerkOf 1 8 = 12");
    }

    private static void forgetOfEachKind() {
        Rows.run("promise 4", "forget 0 = -1", "clerk 0 = 0", "clerk 1 = 1", "clerk 2 = 2", "forget -1 = -1",
                "forget 3 = -1", "forget 0 = -2", "count 10 = 3", "ask 0 3 = 3", "ask 1 1 = 11",
                "ask 2 2 = 22", "count 10 = 4", "clerkOf 0 4 = 3", "clerkOf 1 4 = 14", "clerkOf 2 4 = 30",
                "forget 0 = 0", "forget 1 = 3", "forget 2 = 8", "clerkOf 0 1 = 7", "clerkOf 1 1 = 6",
                "clerkOf 1 2 = 15", "clerkOf 1 3 = 20", "clerkOf 1 4 = 14", "clerkOf 2 1 = 0",
                "clerkOf 2 4 = -4", "forget 2 = -2", "forget 1 = 0", "among 1 600 4 = 11",
                "numberOf 12 4 = 0", "numberOf 12 1 = 1", "numberOf 12 2 = -4", "numberOf 23 1 = 2",
                "ask 2 1 = 31", "ask 1 1 = 15", "clerkOf 1 4 = 18", "ask 0 1 = 4");
        Rows.run("promise 4, a change even without a hole", "clerk 0 = 0", "ask 0 1 = 1", "forget 0 = 0",
                "count 10 = 3", "undo = 2");
    }

    private static void forgetOfALazyClerk() {
        Rows.run("promise 4, the lazy clerk's mark", "clerk 1 = 0", "ask 0 4 = 4", "clerkOf 0 4 = 4",
                "forget 0 = 0", "ask 0 1 = 5", "clerkOf 0 4 = 8", "set 2 2 = 4", "ask 0 3 = 8",
                "clerkOf 0 4 = 8", "ask 0 1 = 9", "clerkOf 0 4 = 10", "forget 0 = 1", "clerkOf 0 1 = 0",
                "set 2 10 = 2", "ask 0 1 = 11", "clerkOf 0 4 = 20", "forget 0 = 9", "set 0 1 = 10",
                "ask 0 1 = 21", "clerkOf 0 4 = -4", "forget 0 = -2", "ask 0 1 = 22");
        Rows.run("promise 4, at most the block's last number", "clerk 1 = 0", "set 0 6 = 10", "ask 0 5 = 5",
                "clerkOf 0 4 = 6", "forget 0 = 1", "ask 0 1 = 7", "clerkOf 0 4 = 10", "count 6 = 13");
        Rows.run("promise 4, the mark of an earlier block", "clerk 1 = 0", "clerk 0 = 1", "ask 0 1 = 1",
                "ask 1 1 = 11", "giveBack 1 = 9", "ask 0 1 = 2", "giveBack 0 = 8", "ask 1 1 = 3",
                "giveBack 1 = 7", "ask 0 1 = 4", "clerkOf 0 4 = 7", "ask 0 6 = 10", "ask 0 1 = 12",
                "clerkOf 0 4 = 15", "forget 0 = 3", "giveBack 0 = 5", "ask 0 1 = 16", "clerkOf 0 4 = 19");
        Rows.run("promise 4, a lower block after a higher one", "clerk 1 = 0", "clerk 0 = 1", "ask 1 1 = 1",
                "ask 0 10 = 20", "giveBack 1 = 9", "ask 0 1 = 2", "clerkOf 0 4 = 5", "forget 0 = 3");
    }

    private static void giveBack() {
        Rows.run("promise 5", "giveBack 0 = -1", "clerk 0 = 0", "clerk 1 = 1", "giveBack -1 = -1",
                "giveBack 2 = -1", "giveBack 0 = -2", "count 10 = 2", "ask 0 3 = 3", "ask 1 1 = 11",
                "giveBack 0 = 7", "giveBack 0 = -2", "numberOf 4 0 = 3", "numberOf 10 0 = 3",
                "numberOf 4 1 = -4", "numberOf 3 1 = 0", "clerkOf 0 1 = 0", "clerkOf 0 4 = -4",
                "clerkOf 0 6 = 0", "set 1 0 = 1", "giveBack 1 = 9", "numberOf 12 0 = 4", "numberOf 12 4 = 1",
                "numberOf 12 1 = 1", "clerkOf 1 6 = 9", "clerkOf 1 7 = 0", "numberOf 4 0 = 3");
        Rows.run("promise 5, what is left after forgetting", "clerk 1 = 0", "ask 0 1 = 1", "forget 0 = 3",
                "giveBack 0 = 6", "freeAt 0 0 = 5", "ask 0 1 = 5", "clerkOf 0 4 = 8", "clerkOf 0 2 = 6");
    }

    private static void makeVoid() {
        Rows.run("promise 6", "clerk 0 = 0", "clerk 0 = 1", "ask 0 1 = 1", "ask 1 2 = 12", "makeVoid 0 = -1",
                "makeVoid 601 = -1", "makeVoid -1 = -1", "makeVoid 600 = -2", "makeVoid 2 = -2",
                "count 10 = 4", "makeVoid 12 = 1", "makeVoid 12 = -2", "makeVoid 1 = 0", "numberOf 12 0 = 4",
                "numberOf 12 1 = 1", "numberOf 12 2 = 2", "numberOf 12 3 = 0", "numberOf 12 4 = 2",
                "numberOf 12 5 = 0", "count 2 = 3", "clerkOf 1 5 = 2", "clerkOf 1 9 = 12", "clerkOf 1 6 = 1",
                "clerkOf 1 7 = 0", "clerkOf 1 2 = 13", "turnAt 2 = 12", "giveBack 0 = 9", "makeVoid 3 = -2",
                "close = 17", "makeVoid 11 = 1", "makeVoid 2 = -2");
        Rows.run("promise 6, the last number", "clerk 2 = 0", "set 0 50 = 10", "ask 0 50 = 50",
                "text ask 0 50;ask 0 50;ask 0 50;ask 0 50;ask 0 50;ask 0 50;ask 0 50;ask 0 50;", "play = 8",
                "ask 0 50 = 500", "ask 0 50 = 550", "ask 0 50 = 600", "makeVoid 600 = 0", "numberOf 600 4 = 2",
                "count 8 = 599", "holesAt 0 1 = 600");
    }

    private static void close() {
        Rows.run("promise 7", "close = 0", "count 1 = 1", "count 10 = 1", "clerk 0 = 0", "clerk 2 = 1",
                "ask 0 3 = 3", "giveBack 0 = 7", "ask 1 1 = 4", "clerk 0 = 2", "ask 2 1 = 11", "giveBack 1 = 6",
                "close = 15", "count 1 = 2", "numberOf 5 1 = -4", "numberOf 5 4 = 3", "numberOf 12 1 = 2",
                "numberOf 12 4 = 3", "clerkOf 2 1 = 0", "clerkOf 2 4 = -4", "clerkOf 2 6 = 9",
                "clerkOf 1 6 = 0", "forget 2 = -2", "ask 1 1 = 21", "numberOf 21 3 = 2", "numberOf 11 3 = 1",
                "close = 9", "close = 0", "numberOf 4 0 = 2", "count 4 = 0", "count 3 = 0", "count 1 = 4");
        Rows.run("promise 7, free ones that are not handed out", "clerk 0 = 0", "ask 0 1 = 1",
                "giveBack 0 = 9", "set 1 0 = 1", "close = 9", "numberOf 2 1 = -4", "numberOf 2 4 = 3");
    }

    private static void set() {
        Rows.run("promise 8", "set -1 1 = -1", "set 3 1 = -1", "set 0 0 = -1", "set 0 51 = -1", "set 1 -1 = -1",
                "set 1 2 = -1", "set 2 1 = -1", "set 2 11 = -1", "count 10 = 0", "set 0 1 = 10", "set 0 50 = 1",
                "set 0 50 = 50", "set 1 0 = 1", "set 1 1 = 0", "set 2 2 = 4", "set 2 10 = 2", "count 20 = 50",
                "count 21 = 1", "count 22 = 10", "count 10 = 4", "undo = 3", "count 22 = 2");
    }

    private static void lastNumbers() {
        String most = "text ask 0 50;ask 0 50;ask 0 50;ask 0 50;ask 0 50;ask 0 50;ask 0 50;ask 0 50;";
        Rows.run("promises 3, 5 and 7, the last numbers", "clerk 2 = 0", most, "play = 8", "ask 0 50 = 450",
                "ask 0 50 = 500", "ask 0 50 = 550", "ask 0 49 = 599", "next 0 = 600", "clerkOf 0 3 = 600",
                "giveBack 0 = 1", "freeAt 0 0 = 600", "freeAt 0 1 = 600", "next 0 = 600", "clerk 1 = 1",
                "close = 1", "numberOf 600 4 = 3", "numberOf 600 1 = -4", "count 9 = 1", "holesAt 0 0 = 600",
                "among 600 600 13 = 1", "among 1 599 13 = 0", "next 0 = -3", "undo = 3", "undo = 2",
                "next 1 = -1", "ask 0 1 = 600", "clerkOf 0 8 = 61", "makeVoid 600 = 0", "clerkOf 0 6 = 1");
        Rows.run("promises 4 and 7, the last number", "clerk 2 = 0", "clerk 1 = 1", most, "play = 8",
                "ask 0 50 = 450", "ask 0 50 = 500", "ask 0 50 = 550", "ask 0 49 = 599", "cost 0 0 = 1",
                "worst = 0", "cost 0 1 = 0", "cost 0 2 = -3", "forget 0 = 1", "numberOf 600 4 = 0",
                "clerkOf 0 6 = 1", "clerkOf 0 7 = 1", "undo = 3", "next 1 = -3", "close = 1",
                "numberOf 600 1 = 0", "numberOf 600 4 = 3", "clerkOf 0 6 = 1", "clerkOf 0 7 = 0");
    }

    /** What cost(), fault(), play() and undo() tried out or restored leaves nothing behind. */
    private static void changesAfterTrials() {
        String[] trials = {"cost 0 44 = 3", "fault 0 = 16", "play = -2", "undo = 3"};
        String[] changes = {"clerk 2 = 2", "ask 0 1 = 4", "forget 0 = 7", "giveBack 0 = 7", "makeVoid 3 = 0",
            "close = 14", "set 0 9 = 10"};
        for (String trial : trials) {
            String ahead = trial.startsWith("undo") ? "ask 1 5 = 18" : "next 1 = 14";
            for (String change : changes) {
                String behind = change.startsWith("close") ? "next 1 = 21" : "next 1 = 14";
                Rows.run(change + " after " + trial, "text ask 0 9;ask 0 9;ask 0 0;", "clerk 2 = 0", "clerk 0 = 1",
                        "ask 0 3 = 3", "ask 1 3 = 13", ahead, trial, change, behind, "undo = 3", "next 0 = 4",
                        "next 1 = 14", "count 2 = 6", "count 1 = 0", "count 0 = 2", "count 20 = 10",
                        "count 5 = 0", "count 4 = 0");
            }
        }
    }
}
