/** Promises 16 to 19: what would be, and undoing. */
public final class ForesightTest {
    public static void main(String[] args) {
        next();
        cost();
        worst();
        undo();
        undoOfEachThing();
        Rows.end();
    }

    private static void next() {
        Rows.run("promise 16", "next 0 = -1", "clerk 0 = 0", "next -1 = -1", "next 1 = -1", "next 0 = 1",
                "count 6 = 1", "clerkOf 0 8 = 0", "clerk 1 = 1", "ask 0 2 = 2", "next 0 = 3", "next 1 = 11",
                "ask 1 1 = 11", "next 1 = 12", "forget 1 = 3", "next 1 = 15", "giveBack 0 = 8", "next 0 = 3",
                "next 1 = 15", "set 1 0 = 1", "next 0 = 21", "ask 1 6 = 20", "next 1 = 21", "set 1 1 = 0",
                "next 1 = 3");
        Rows.run("promise 16, one number held", "clerk 0 = 0", "clerk 0 = 1", "ask 0 1 = 1", "ask 1 9 = 19",
                "next 1 = 20", "giveBack 0 = 9", "next 1 = 20", "next 0 = 2");
    }

    private static void cost() {
        Rows.run("promise 17", "cost 0 0 = -1", "clerk 0 = 0", "clerk 1 = 1", "clerk 2 = 2", "cost -1 0 = -1",
                "cost 3 0 = -1", "cost 0 -1 = -1", "cost 0 51 = -1", "cost 0 0 = 0", "cost 1 0 = 0",
                "cost 2 0 = 0", "cost 0 5 = 0", "cost 1 1 = 3", "cost 1 2 = 2", "cost 1 4 = 0", "cost 1 5 = 3",
                "cost 1 9 = 1", "cost 1 10 = 0", "cost 1 11 = 3", "cost 2 1 = 9", "cost 2 9 = 1", "cost 2 10 = 0",
                "cost 2 50 = 0", "cost 2 49 = 1", "count 2 = 0", "count 6 = 1", "count 10 = 3", "ask 2 3 = 3",
                "cost 2 0 = 7", "cost 2 1 = 6", "cost 2 7 = 0", "cost 2 8 = 9", "forget 2 = 7", "cost 2 0 = 0",
                "count 10 = 4");
        Rows.run("promise 17, with free ones", "clerk 2 = 0", "clerk 0 = 1", "ask 1 8 = 8", "giveBack 1 = 2",
                "cost 0 1 = 1", "cost 0 2 = 0", "cost 0 3 = 9", "set 1 0 = 1", "cost 0 1 = 9", "cost 0 3 = 7");
        Rows.run("promise 17, at the limit", "clerk 2 = 0", "clerk 1 = 1", "set 0 50 = 10",
                "text ask 0 50;ask 0 50;ask 0 50;ask 0 50;ask 0 50;", "play = 5", "play = 5", "ask 1 1 = 501",
                "ask 0 45 = 595", "cost 0 6 = -3", "cost 0 5 = 0", "cost 0 1 = 4", "cost 1 50 = -3",
                "cost 1 49 = 0", "cost 1 51 = -1", "cost 1 0 = 3", "count 2 = 546");
    }

    private static void worst() {
        Rows.run("promise 18", "worst = -4", "clerk 0 = 0", "clerk 1 = 1", "clerk 1 = 2", "worst = -4",
                "ask 0 1 = 1", "worst = -4", "ask 1 2 = 12", "ask 2 2 = 22", "worst = 1", "ask 1 1 = 13",
                "worst = 2", "ask 2 2 = 24", "worst = 1", "forget 1 = 1", "worst = -4", "clerk 2 = 3",
                "ask 3 8 = 38", "worst = 3", "ask 2 1 = 25", "worst = 2", "close = 22", "worst = -4");
        Rows.run("promise 18, the lowest", "clerk 2 = 0", "clerk 2 = 1", "ask 1 1 = 1", "worst = 1",
                "ask 0 1 = 11", "worst = 0", "ask 0 1 = 12", "worst = 1");
    }

    private static void undo() {
        Rows.run("promise 19", "undo = -2", "clerk 0 = 0", "clerk 1 = 1", "count 10 = 2", "undo = 1",
                "count 0 = 1", "undo = 0", "undo = -2", "count 0 = 0");
        Rows.run("promise 19, at most four", "clerk 0 = 0", "ask 0 1 = 1", "ask 0 1 = 2", "ask 0 1 = 3",
                "ask 0 1 = 4", "ask 0 1 = 5", "count 10 = 4", "undo = 3", "next 0 = 5", "undo = 2",
                "next 0 = 4", "ask 0 2 = 5", "count 10 = 3", "undo = 2", "next 0 = 4", "undo = 1",
                "next 0 = 3", "undo = 0", "next 0 = 2", "undo = -2", "next 0 = 2", "ask 0 1 = 2", "undo = 0",
                "next 0 = 2");
        Rows.run("promise 19, errors are no changes", "clerk 0 = 0", "clerk 9 = -1", "ask 0 0 = -1",
                "forget 0 = -2", "giveBack 0 = -2", "makeVoid 1 = -2", "set 0 0 = -1", "text ask 0;",
                "play = -2", "count 10 = 1", "undo = 0", "count 0 = 0", "count 11 = 6");
    }

    private static void undoOfEachThing() {
        Rows.run("promise 19, all but the text", "clerk 2 = 0", "close = 0", "ask 0 4 = 4", "type 65 = 1",
                "set 0 7 = 10", "makeVoid 2 = 0", "forget 0 = 6", "close = 0", "undo = 3", "count 1 = 1",
                "type 66 = 2", "undo = 2", "clerkOf 0 1 = 6", "clerkOf 0 4 = 10", "numberOf 10 0 = 1",
                "numberOf 10 4 = -4", "undo = 1", "numberOf 2 0 = 2", "numberOf 2 4 = -4", "undo = 0",
                "count 20 = 10", "count 11 = 2", "numberOf 4 3 = 1", "clerkOf 0 5 = 4", "clerkOf 0 9 = 4");
        Rows.run("promise 19, turns and giving back", "clerk 0 = 0", "ask 0 4 = 4", "giveBack 0 = 6",
                "set 1 0 = 1", "set 2 9 = 4", "undo = 3", "count 22 = 4", "undo = 2", "count 21 = 1",
                "undo = 1", "count 4 = 0", "clerkOf 0 1 = 6", "undo = 0", "count 2 = 0", "count 6 = 1",
                "numberOf 4 2 = -4", "numberOf 4 3 = -4", "numberOf 4 1 = -4", "clerkOf 0 8 = 0",
                "clerkOf 0 9 = -4", "ask 0 1 = 1");
    }
}
