import java.util.Arrays;

/** Runs of calls, written as rows such as "ask 0 3 = 3"; a row "text ask 0 3;" types a text. */
final class Rows {
    private static int wrong = 0;

    private Rows() {
    }

    /** Does the rows on a new object and prints each one whose answer is not the one that is due. */
    static void run(String name, String... rows) {
        BlockClerks office = new BlockClerks();
        for (String row : rows) {
            checkRow(office, name, row);
        }
    }

    /** The same behind rows that are done first. */
    static void runAfter(String name, String[] ahead, String... rows) {
        run(name, after(ahead, rows));
    }

    /** Checks the rows ahead and then each row alone, which has to answer so and to change nothing at all. */
    static void changesNothing(String name, String[] ahead, String... rows) {
        run(name, ahead);
        for (String row : rows) {
            String[] together = after(ahead, row);
            run(name, together);
            String difference = Sight.after(together).differenceFrom(Sight.after(ahead));
            due(name + ": " + row + " changes nothing, but then " + difference, difference.isEmpty());
        }
    }

    /** What stands outside a range, in the place of the "#", is INVALID_ARGUMENT and changes nothing at all. */
    static void refusesOutside(String name, String[] ahead, String call, int least, int most) {
        int[] outside = {least - 1, most + 1, Integer.MIN_VALUE, Integer.MAX_VALUE};
        for (int value : outside) {
            changesNothing(name, ahead, call.replace("#", Integer.toString(value)) + " = -1");
        }
    }

    /** These rows, and more of them behind. */
    static String[] after(String[] ahead, String... more) {
        String[] all = Arrays.copyOf(ahead, ahead.length + more.length);
        System.arraycopy(more, 0, all, ahead.length, more.length);
        return all;
    }

    private static void checkRow(BlockClerks office, String name, String row) {
        int got = answer(office, row);
        boolean fine = row.startsWith("text ") ? got > 0
                : got == Integer.parseInt(row.substring(row.indexOf('=') + 1).trim());
        if (!fine) {
            wrong++;
            System.out.println(name + ": " + row + ", but the answer was " + got);
        }
    }

    /** Does one row and returns what was answered last; what stands behind "=" is not looked at. */
    static int answer(BlockClerks office, String row) {
        if (row.startsWith("text ")) {
            return typeAll(office, row.substring(5));
        }
        String[] words = row.split(" = ")[0].trim().split(" +");
        int[] given = new int[3];
        for (int i = 1; i < words.length; i++) {
            given[i - 1] = Integer.parseInt(words[i]);
        }
        return call(office, words[0], given[0], given[1], given[2]);
    }

    private static int typeAll(BlockClerks office, String text) {
        int answer = 0;
        for (int i = 0; i < text.length(); i++) {
            answer = office.type(text.charAt(i));
        }
        return answer;
    }

    static void due(String what, boolean holds) {
        if (!holds) {
            wrong++;
            System.out.println("not so: " + what);
        }
    }

    static void end() {
        System.out.println(wrong == 0 ? "all answers are as due" : wrong + " answers are not as due");
        if (wrong != 0) {
            System.exit(1);
        }
    }

    static int call(BlockClerks office, String name, int a, int b, int c) {
        switch (name) {
            case "clerk": return office.clerk(a);
            case "ask": return office.ask(a, b);
            case "forget": return office.forget(a);
            case "giveBack": return office.giveBack(a);
            case "makeVoid": return office.makeVoid(a);
            case "close": return office.close();
            case "set": return office.set(a, b);
            case "numberOf": return office.numberOf(a, b);
            case "clerkOf": return office.clerkOf(a, b);
            case "holesAt": return office.holesAt(a, b);
            case "freeAt": return office.freeAt(a, b);
            case "turnAt": return office.turnAt(a);
            case "among": return office.among(a, b, c);
            case "count": return office.count(a);
            case "next": return office.next(a);
            case "cost": return office.cost(a, b);
            case "worst": return office.worst();
            case "undo": return office.undo();
            case "type": return office.type(a);
            case "clearText": return office.clearText();
            case "fault": return office.fault(a);
            case "play": return office.play();
            default: throw new IllegalArgumentException(name);
        }
    }
}
