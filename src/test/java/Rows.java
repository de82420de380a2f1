/** Runs of calls, written as rows such as "ask 0 3 = 3"; a row "text ask 0 3;" types a text. */
final class Rows {
    private static int wrong = 0;

    private Rows() {
    }

    /** Does the rows on a new object and prints each one whose answer is not the one that is due. */
    static void run(String name, String... rows) {
        BlockClerks office = new BlockClerks();
        for (String row : rows) {
            if (row.startsWith("text ")) {
                typeAll(office, row.substring(5));
            } else {
                checkRow(office, name, row);
            }
        }
    }

    private static void checkRow(BlockClerks office, String name, String row) {
        String[] sides = row.split(" = ");
        String[] words = sides[0].trim().split(" +");
        int[] given = new int[3];
        for (int i = 1; i < words.length; i++) {
            given[i - 1] = Integer.parseInt(words[i]);
        }
        int got = call(office, words[0], given[0], given[1], given[2]);
        if (got != Integer.parseInt(sides[1].trim())) {
            wrong++;
            System.out.println(name + ": " + row + ", but the answer was " + got);
        }
    }

    static void typeAll(BlockClerks office, String text) {
        for (int i = 0; i < text.length(); i++) {
            office.type(text.charAt(i));
        }
    }

    static void due(String what, boolean holds) {
        if (!holds) {
            wrong++;
            System.out.println("not so: " + what);
        }
    }

    static void end() {
        System.out.println(wrong == 0 ? "all answers are as due" : wrong + " answers are not as due");
        if (wrong != 0) {
            System.exit(1);
        }
    }

    static int call(BlockClerks office, String name, int a, int b, int c) {
        switch (name) {
            case "clerk": return office.clerk(a);
            case "ask": return office.ask(a, b);
            case "forget": return office.forget(a);
            case "giveBack": return office.giveBack(a);
            case "makeVoid": return office.makeVoid(a);
            case "close": return office.close();
            case "set": return office.set(a, b);
            case "numberOf": return office.numberOf(a, b);
            case "clerkOf": return office.clerkOf(a, b);
            case "holesAt": return office.holesAt(a, b);
            case "freeAt": return office.freeAt(a, b);
            case "turnAt": return office.turnAt(a);
            case "among": return office.among(a, b, c);
            case "count": return office.count(a);
            case "next": return office.next(a);
            case "cost": return office.cost(a, b);
            case "worst": return office.worst();
            case "undo": return office.undo();
            case "type": return office.type(a);
            case "clearText": return office.clearText();
            case "fault": return office.fault(a);
            case "play": return office.play();
            default: throw new IllegalArgumentException(name);
        }
    }
}
