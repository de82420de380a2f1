/** Promises 9 to 15: what there is. */
public final class AnswersTest {
    public static void main(String[] args) {
        numberOf();
        lateNumbers();
        clerkOf();
        holesAt();
        freeAt();
        turnAt();
        among();
        count();
        countWithoutGap();
        Rows.end();
    }

    private static void numberOf() {
        Rows.run("promise 9", "numberOf 0 0 = -1", "numberOf 601 0 = -1", "numberOf 1 -1 = -1",
                "numberOf 1 6 = -1", "numberOf 1 1 = -4", "numberOf 1 2 = -4", "numberOf 1 3 = -4",
                "numberOf 1 4 = -4", "numberOf 1 5 = -4", "clerk 1 = 0", "close = 0", "ask 0 2 = 2",
                "numberOf 2 0 = 2", "numberOf 2 1 = 0", "numberOf 2 2 = 1", "numberOf 2 3 = 1",
                "numberOf 2 4 = -4", "numberOf 2 5 = 0", "numberOf 3 0 = 1", "numberOf 3 1 = 0",
                "numberOf 3 2 = -4", "numberOf 3 3 = -4", "numberOf 3 4 = -4", "numberOf 3 5 = -4",
                "forget 0 = 2", "numberOf 3 0 = 4", "numberOf 3 5 = -4", "numberOf 3 3 = -4",
                "giveBack 0 = 6", "numberOf 5 0 = 3", "numberOf 5 1 = -4", "numberOf 5 4 = -4",
                "numberOf 5 2 = -4", "numberOf 5 6 = -1");
    }

    private static void lateNumbers() {
        Rows.run("promise 9, late ones", "clerk 0 = 0", "clerk 0 = 1", "ask 0 1 = 1", "ask 1 1 = 11",
                "ask 0 1 = 2", "ask 1 1 = 12", "numberOf 1 5 = 0", "numberOf 11 5 = 0", "numberOf 2 5 = 1",
                "numberOf 12 5 = 0", "count 7 = 1", "makeVoid 2 = 0", "numberOf 2 5 = 1", "count 7 = 1",
                "makeVoid 12 = 1", "makeVoid 11 = 1", "ask 0 1 = 3", "numberOf 3 5 = 1", "count 7 = 2",
                "ask 1 1 = 13", "numberOf 13 5 = 0", "numberOf 3 2 = 4", "undo = 3", "numberOf 13 5 = -4",
                "undo = 2", "count 7 = 1");
    }

    private static void clerkOf() {
        Rows.run("promise 10", "clerkOf 0 0 = -1", "clerk 2 = 0", "clerkOf -1 0 = -1", "clerkOf 1 0 = -1",
                "clerkOf 0 -1 = -1", "clerkOf 0 10 = -1", "clerkOf 0 0 = 2", "clerkOf 0 1 = 0",
                "clerkOf 0 2 = -4", "clerkOf 0 3 = -4", "clerkOf 0 4 = -4", "clerkOf 0 5 = 0",
                "clerkOf 0 6 = 0", "clerkOf 0 7 = 0", "clerkOf 0 8 = 0", "clerkOf 0 9 = -4", "ask 0 3 = 3",
                "clerkOf 0 1 = 7", "clerkOf 0 2 = 4", "clerkOf 0 3 = 10", "clerkOf 0 4 = 10",
                "clerkOf 0 5 = 3", "clerkOf 0 8 = 1", "clerkOf 0 9 = 3", "forget 0 = 7", "makeVoid 2 = 0",
                "clerkOf 0 6 = 8", "clerkOf 0 7 = 7", "clerkOf 0 5 = 3", "clerkOf 0 2 = -4", "ask 0 10 = 20",
                "clerkOf 0 8 = 2", "clerkOf 0 2 = -4", "clerkOf 0 9 = 20", "ask 0 1 = 21", "close = 9",
                "clerkOf 0 6 = 17", "clerkOf 0 7 = 7", "clerk 0 = 1", "clerkOf 1 6 = 0", "clerkOf 1 7 = 0");
        Rows.run("promise 10, marks", "clerk 0 = 0", "ask 0 10 = 10", "clerkOf 0 4 = -4", "ask 0 1 = 11",
                "clerkOf 0 4 = 11", "ask 0 2 = 13", "clerkOf 0 4 = 13", "clerk 2 = 1", "ask 1 1 = 21",
                "clerkOf 1 4 = 30", "giveBack 1 = 9", "ask 0 8 = 22", "clerkOf 0 9 = 22", "clerkOf 0 4 = 22");
    }

    private static void holesAt() {
        Rows.run("promise 11", "holesAt -1 0 = -1", "holesAt 0 -1 = -1", "holesAt 0 4 = -1", "holesAt 9 4 = -1",
                "holesAt 0 0 = -4", "holesAt 0 3 = -4", "clerk 2 = 0", "clerk 2 = 1", "clerk 0 = 2",
                "set 0 4 = 10", "ask 0 1 = 1", "ask 1 1 = 5", "forget 0 = 3", "makeVoid 5 = 1",
                "forget 1 = 3", "holesAt 0 0 = 2", "holesAt 0 1 = 4", "holesAt 0 2 = 0", "holesAt 0 3 = 0",
                "holesAt 1 0 = 5", "holesAt 1 1 = 5", "holesAt 1 2 = 2", "holesAt 1 3 = 1", "holesAt 2 0 = 6",
                "holesAt 2 1 = 8", "holesAt 2 2 = 0", "holesAt 2 3 = 1", "holesAt 3 0 = -4", "count 9 = 3",
                "makeVoid 1 = 0", "count 9 = 4", "holesAt 0 1 = 1", "ask 2 1 = 9", "giveBack 2 = 3",
                "ask 0 1 = 10", "ask 1 4 = 16", "ask 1 1 = 17", "ask 2 1 = 21", "giveBack 2 = 3",
                "close = 8", "count 9 = 7", "holesAt 4 0 = 11", "holesAt 4 1 = 12", "holesAt 4 3 = 0",
                "holesAt 5 0 = 18", "holesAt 5 1 = 20", "holesAt 5 3 = 1", "holesAt 6 0 = 22",
                "holesAt 6 1 = 24", "holesAt 6 2 = 3", "holesAt 6 3 = -4", "holesAt 7 3 = -4");
        Rows.run("promise 11, rows that grow together", "clerk 0 = 0", "clerk 0 = 1", "set 0 3 = 10",
                "set 1 0 = 1", "ask 0 3 = 3", "makeVoid 1 = 0", "makeVoid 3 = 0", "count 9 = 2",
                "makeVoid 2 = 0", "count 9 = 1", "holesAt 0 0 = 1", "holesAt 0 1 = 3", "ask 1 3 = 6",
                "makeVoid 4 = 1", "count 9 = 2", "holesAt 0 1 = 3", "holesAt 1 0 = 4", "close = 0",
                "makeVoid 5 = 1", "holesAt 1 1 = 5");
    }

    private static void freeAt() {
        Rows.run("promise 12", "freeAt -1 0 = -1", "freeAt 0 -1 = -1", "freeAt 0 2 = -1", "freeAt 5 2 = -1",
                "freeAt 0 0 = -4", "clerk 0 = 0", "clerk 0 = 1", "clerk 0 = 2", "ask 0 1 = 1", "ask 1 5 = 15",
                "ask 2 1 = 21", "giveBack 1 = 5", "giveBack 0 = 9", "freeAt 0 0 = 2", "freeAt 0 1 = 10",
                "freeAt 1 0 = 16", "freeAt 1 1 = 20", "freeAt 2 0 = -4", "freeAt 2 1 = -4", "set 0 5 = 10",
                "ask 0 1 = 2", "freeAt 0 0 = 7", "giveBack 0 = 4", "freeAt 0 0 = 3", "freeAt 0 1 = 10");
        Rows.run("promise 12, two clerks' rests are one row", "clerk 0 = 0", "clerk 0 = 1", "set 0 3 = 10",
                "ask 0 1 = 1", "ask 1 1 = 4", "giveBack 0 = 2", "giveBack 1 = 2", "freeAt 0 1 = 3",
                "freeAt 1 0 = 5", "freeAt 1 1 = 6", "ask 0 1 = 2", "ask 1 1 = 5", "ask 0 1 = 3",
                "giveBack 1 = 1", "freeAt 0 0 = 6", "freeAt 0 1 = 6", "freeAt 1 0 = -4");
    }

    private static void turnAt() {
        Rows.run("promise 13", "turnAt -1 = -1", "turnAt 0 = -4", "clerk 0 = 0", "clerk 0 = 1", "ask 0 2 = 2",
                "ask 1 1 = 11", "ask 0 1 = 3", "turnAt 0 = 1", "turnAt 1 = 2", "turnAt 2 = 11", "turnAt 3 = 3",
                "turnAt 4 = -4", "turnAt 600 = -4", "turnAt 2147483647 = -4", "turnAt -2147483648 = -1",
                "makeVoid 11 = 1", "turnAt 2 = 11", "undo = 3", "undo = 2", "turnAt 3 = -4");
    }

    private static void among() {
        Rows.run("promise 14", "among 0 1 0 = -1", "among 2 1 0 = -1", "among 1 601 0 = -1", "among 1 1 -1 = -1",
                "among 1 1 5 = -1", "among 1 1 9 = -1", "among 1 1 14 = -1", "among 1 1 0 = 1",
                "among 600 600 0 = 1", "among 601 601 0 = -1", "clerk 2 = 0", "clerk 1 = 1", "clerk 0 = 2",
                "ask 0 2 = 2", "forget 0 = 8", "makeVoid 2 = 0", "ask 1 1 = 11", "giveBack 1 = 9",
                "ask 0 1 = 12", "close = 8", "set 1 0 = 1", "ask 1 1 = 21", "giveBack 1 = 9", "ask 2 3 = 33",
                "among 1 600 0 = 560", "among 1 600 1 = 7", "among 1 600 2 = 7", "among 1 600 3 = 0",
                "among 1 600 4 = 26", "among 1 600 10 = 8", "among 1 600 11 = 9", "among 1 600 12 = 1",
                "among 1 600 13 = 8", "among 2 2 12 = 1", "among 3 9 10 = 7", "among 34 36 1 = 3",
                "among 33 40 1 = 7", "among 40 41 0 = 1");
        Rows.run("promise 14, free ones", "clerk 0 = 0", "ask 0 2 = 2", "giveBack 0 = 8", "among 3 10 3 = 8",
                "among 1 4 3 = 2", "among 3 10 10 = 0", "among 3 10 13 = 0", "among 4 9 3 = 6", "makeVoid 1 = 0",
                "among 1 1 12 = 1", "among 2 600 12 = 0", "among 1 600 12 = 1", "clerkOf 0 6 = 1", "close = 8",
                "among 4 9 13 = 6");
    }

    private static void count() {
        Rows.run("promise 15", "count -1 = -1", "count 12 = -1", "count 19 = -1", "count 23 = -1",
                "count 2147483647 = -1", "clerk 1 = 0", "clerk 0 = 1", "ask 0 3 = 3", "ask 1 2 = 12",
                "forget 0 = 1", "giveBack 1 = 8", "makeVoid 1 = 0", "ask 0 1 = 5", "count 0 = 2", "count 1 = 0",
                "count 2 = 6", "count 3 = 5", "count 4 = 8", "count 5 = 2", "count 6 = 21", "count 7 = 1",
                "count 8 = 0", "count 9 = 2", "count 10 = 4", "count 11 = 0", "type 32 = 1", "count 11 = 1",
                "count 20 = 10", "count 21 = 1", "count 22 = 4", "close = 13", "count 1 = 1", "count 4 = 0",
                "count 3 = 0", "count 6 = 21");
    }

    private static void countWithoutGap() {
        Rows.run("promise 15, given without gap", "clerk 0 = 0", "clerk 0 = 1", "ask 1 1 = 1", "ask 0 1 = 11",
                "count 8 = 1", "ask 1 9 = 10", "count 8 = 11", "makeVoid 6 = 1", "count 8 = 5", "ask 0 3 = 14",
                "count 8 = 5", "makeVoid 1 = 1", "count 8 = 0");
    }
}
