/** Long runs of calls, always the same ones, on the program and on the model: all promises at once. */
public final class ModelTest {
    private static final int RUNS = 500;
    private static final int CALLS = 512;
    private static final String[] ASKING = {"numberOf", "clerkOf", "holesAt", "freeAt", "turnAt", "among", "count",
        "next", "cost", "worst", "fault"};
    private static final String[] PARTS = {"clerk careful;", "clerk lazy;", "clerk dreamy;", "ask 0 3;", "ask 1 7;",
        "ask 00 050;", "ask 2 12;", "forget 0;", "forget 1;", "back 0;", "back 001;", "void 1;", "void 011;",
        "close;", "close;", "ask 0 0;", "ask 7 1;", "void 000;", "clerk lazi;", "ask 1  1;", "close", ";", "void 0601;"};

    private long seed;
    private final BlockClerks office = new BlockClerks();
    private final Model model = new Model();
    private final StringBuilder done = new StringBuilder();
    private boolean differs = false;
    private int calls = 0;

    private ModelTest(int run) {
        seed = run * 7919L + 17;
    }

    public static void main(String[] args) {
        for (int run = 0; run < RUNS; run++) {
            ModelTest test = new ModelTest(run);
            test.go(run % 5);
            Rows.due("run " + run + ": " + test.done, !test.differs);
            if (test.differs) {
                break;
            }
        }
        Rows.end();
    }

    private int below(int bound) {
        seed = seed * 6364136223846793005L + 1442695040888963407L;
        return (int) ((seed >>> 33) % bound);
    }

    /** A number of the range, now and then one right beside it, seldom one far away. */
    private int near(int least, int most) {
        int dice = below(40);
        if (dice == 0) {
            return least - 1;
        }
        if (dice == 1) {
            return most + 1;
        }
        if (dice == 2) {
            return below(2) == 0 ? Integer.MIN_VALUE : Integer.MAX_VALUE;
        }
        return least + below(most - least + 1);
    }

    private void go(int mood) {
        for (int i = below(4); i > 0; i--) {
            compare("clerk", below(3), 0, 0);
        }
        if (mood > 0) {
            compare("set", 0, mood == 1 ? 1 + below(3) : 30 + below(21), 0);
        }
        while (calls < CALLS && !differs) {
            if (below(3) == 0) {
                ask();
            } else {
                change(mood);
            }
        }
    }

    private void change(int mood) {
        int clerks = Math.max(0, model.call("count", 0, 0, 0) - 1);
        switch (below(mood == 4 ? 24 : 16)) {
            case 0: compare("clerk", near(0, 2), 0, 0); break;
            case 1: case 2: case 3: compare("ask", near(0, clerks), 1 + below(6), 0); break;
            case 4: compare("ask", near(0, clerks), near(1, 50), 0); break;
            case 5: case 6: compare("forget", near(0, clerks), 0, 0); break;
            case 7: case 8: compare("giveBack", near(0, clerks), 0, 0); break;
            case 9: compare("makeVoid", model.call("turnAt", below(Math.max(1, model.call("count", 2, 0, 0))), 0, 0), 0, 0); break;
            case 10: compare("makeVoid", near(1, 600), 0, 0); break;
            case 11: if (below(4) == 0) { compare("close", 0, 0, 0); } break;
            case 12: if (below(3) == 0) { set(); } break;
            case 13: compare("undo", 0, 0, 0); break;
            case 14: text(); break;
            case 15: compare("play", 0, 0, 0); break;
            default: compare("ask", near(0, clerks), 20 + below(31), 0); break;
        }
    }

    private void set() {
        int what = near(0, 2);
        compare("set", what, what == 0 ? near(1, 50) : what == 1 ? near(0, 1) : near(2, 10), 0);
    }

    private void text() {
        compare("clearText", 0, 0, 0);
        for (int parts = below(7); parts > 0; parts--) {
            String part = PARTS[below(PARTS.length - (below(4) == 0 ? 0 : 8))];
            for (int i = 0; i < part.length(); i++) {
                compare("type", part.charAt(i), 0, 0);
            }
        }
        if (below(8) == 0) {
            compare("type", near(32, 126), 0, 0);
        }
        compare("fault", 0, 0, 0);
        compare("fault", 1, 0, 0);
    }

    private void ask() {
        int from = near(1, 600);
        int clerks = Math.max(0, model.call("count", 0, 0, 0) - 1);
        String name = ASKING[below(ASKING.length)];
        switch (name) {
            case "numberOf": compare(name, below(2) == 0 ? near(1, 600) : near(1, model.call("count", 6, 0, 0)), near(0, 5), 0); break;
            case "clerkOf": compare(name, near(0, clerks), near(0, 9), 0); break;
            case "holesAt": compare(name, near(0, model.call("count", 9, 0, 0)), near(0, 3), 0); break;
            case "freeAt": compare(name, near(0, 3), near(0, 1), 0); break;
            case "turnAt": compare(name, near(0, model.call("count", 2, 0, 0)), 0, 0); break;
            case "among": compare(name, from, near(Math.max(1, Math.min(from, 600)), 600),
                    below(2) == 0 ? near(0, 4) : near(10, 13)); break;
            case "count": compare(name, below(4) == 0 ? near(20, 22) : near(0, 11), 0, 0); break;
            case "next": compare(name, near(0, clerks), 0, 0); break;
            case "cost": compare(name, near(0, clerks), below(2) == 0 ? near(0, 50) : near(0, 4), 0); break;
            case "fault": compare(name, near(0, 1), 0, 0); break;
            default: compare(name, 0, 0, 0); break;
        }
    }

    private void compare(String name, int a, int b, int c) {
        if (differs || calls >= CALLS) {
            return;
        }
        calls++;
        int got = Rows.call(office, name, a, b, c);
        int due = model.call(name, a, b, c);
        done.append('\n').append(name).append(' ').append(a).append(' ').append(b).append(' ').append(c)
                .append(" = ").append(got);
        if (got != due) {
            done.append(", but the model says ").append(due);
            differs = true;
        }
    }
}
