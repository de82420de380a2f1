/** Promises 20 to 23: the text, its fault and doing its commands. */
public final class TextsTest {
    public static void main(String[] args) {
        type();
        clearText();
        goodForms();
        badForms();
        ranges();
        otherFaults();
        faultAfterCommands();
        play();
        playIsOneChange();
        Rows.end();
    }

    private static void type() {
        Rows.run("promise 20", "type 31 = -1", "type 127 = -1", "type -1 = -1", "type 0 = -1", "type 32 = 1",
                "type 126 = 2", "count 11 = 2", "count 10 = 0");
        String[] rows = new String[83];
        for (int i = 0; i < 80; i++) {
            rows[i] = "type 59 = " + (i + 1);
        }
        rows[80] = "type 59 = -3";
        rows[81] = "type 31 = -1";
        rows[82] = "count 11 = 80";
        Rows.run("promise 20, the longest text", rows);
    }

    private static void clearText() {
        Rows.run("promise 21", "clearText = 0", "text close;", "clearText = 6", "count 11 = 0", "clearText = 0",
                "count 10 = 0", "fault 0 = -4", "type 99 = 1", "fault 0 = 0", "fault 1 = 1");
    }

    private static void goodForms() {
        Rows.run("promise 22", "fault -1 = -1", "fault 2 = -1", "fault 0 = -4", "fault 1 = -4", "text x",
                "fault -1 = -1", "fault 2 = -1", "fault 0 = 0", "fault 1 = 1");
        noFault("clerk careful;");
        noFault("clerk lazy;clerk dreamy;");
        noFault("clerk dreamy;ask 0 1;ask 00 50;ask 000 001;back 0;close;close;");
        noFault("clerk lazy;ask 0 1;forget 0;void 1;");
        noFault("clerk lazy;ask 0 1;back 000;ask 0 002;void 01;void 002;");
        noFault("close;close;close;close;close;close;close;close;close;close;close;close;close;");
    }

    private static void noFault(String text) {
        Rows.run("promise 22, " + text, "text " + text, "fault 0 = -4", "fault 1 = -4", "count 10 = 0",
                "count 0 = 0", "count 1 = 0");
    }

    private static void badForms() {
        String[] forms = {";", " ", "close", "close ;", " close;", "Close;", "closed;", "close ", "clos;",
            "clerk;", "clerk ;", "clerk sleepy;", "clerk  lazy;", "clerk lazy ;", "clerk lazy", "clerk 0;",
            "clerk Lazy;", "clerklazy;", "clerk lazydreamy;", "ask;", "ask 0;", "ask 0 ;", "ask 0 1", "ask 0 1 ;",
            "ask  0 1;", "ask 0  1;", "ask 01;", "ask 0000 1;", "ask 0 0001;", "ask 0 1000;", "ask -1 1;",
            "ask a 1;", "ask 0 1a;", "ask 0,1;", "ask 0 1 2;", "forget;", "forget ;", "forget 0", "forget 0000;",
            "forget 0 1;", "forget x;", "forget 0:;", "forget /;", "back;", "back ;", "back 0", "back 0000;",
            "back +1;", "back 0 0;", "void;", "void ;", "void 1", "void 0001;", "void 1000;", "void 1 ;", "void x;",
            "giveback 0;", "undo;", "set 0 1;", "~"};
        for (String form : forms) {
            Rows.run("promise 22, " + form, "text " + form, "fault 0 = 0", "fault 1 = 1", "play = -2");
            Rows.run("promise 22, later " + form, "text clerk dreamy;ask 0 1;" + form, "fault 0 = 21", "fault 1 = 1",
                    "play = -2", "count 0 = 0");
        }
    }

    private static void ranges() {
        String[] commands = {"ask 1 1;", "ask 9 1;", "ask 999 999;", "ask 0 0;", "ask 0 51;", "ask 0 000;",
            "ask 0 999;", "forget 1;", "forget 999;", "back 1;", "back 006;", "void 0;", "void 000;", "void 601;",
            "void 999;"};
        for (String command : commands) {
            Rows.run("promise 22, " + command, "text clerk lazy;" + command + "x", "fault 0 = 11", "fault 1 = 2",
                    "play = -2", "count 10 = 0");
        }
        Rows.run("promise 22, range ahead of anything else", "text forget 0;", "fault 1 = 2", "clerk 0 = 0",
                "fault 1 = 3", "ask 0 1 = 1", "fault 1 = -4");
    }

    private static void otherFaults() {
        String[] commands = {"forget 0;", "back 0;", "void 1;", "void 600;"};
        for (String command : commands) {
            Rows.run("promise 22, " + command, "text clerk lazy;" + command + "x", "fault 0 = 11", "fault 1 = 3",
                    "play = -2", "count 10 = 0");
        }
        Rows.run("promise 22, a seventh clerk", "clerk 0 = 0", "clerk 0 = 1", "clerk 0 = 2", "clerk 0 = 3",
                "text clerk careful;clerk lazy;clerk dreamy;x", "fault 0 = 25", "fault 1 = 3");
        Rows.run("promise 22, no numbers left", "clerk 0 = 0",
                "text ask 0 50;ask 0 50;ask 0 50;ask 0 50;ask 0 50;ask 0 50;ask 0 50;ask 0 46;", "play = 8",
                "fault 0 = 36", "fault 1 = 3", "ask 0 50 = 446", "ask 0 50 = 496", "ask 0 50 = 546",
                "ask 0 4 = 550", "fault 0 = 9", "fault 1 = 3", "clearText = 72", "text ask 0 50;ask 0 1;",
                "fault 0 = 9", "fault 1 = 3");
        Rows.run("promise 22, void a second time", "text clerk lazy;ask 0 2;void 2;void 1;void 2;", "fault 0 = 33",
                "fault 1 = 3");
    }

    private static void faultAfterCommands() {
        Rows.run("promise 22, those ahead are done", "clerk 2 = 0", "text ask 0 5;forget 0;forget 0;",
                "fault 0 = 17", "fault 1 = 3", "count 2 = 0", "clerkOf 0 1 = 0", "count 10 = 1", "ask 0 1 = 1",
                "fault 0 = 17", "clearText = 26", "text back 0;ask 0 1;void 2;close;back 0;", "fault 0 = 28",
                "fault 1 = 3", "set 1 0 = 1", "fault 0 = 15");
    }

    private static void play() {
        Rows.run("promise 23", "text clerk careful;clerk lazy;clerk dreamy;ask 1 2;ask 0 1;ask 2 1;forget 1;back 1;",
                "play = 8", "count 11 = 78", "count 0 = 3", "clerkOf 0 0 = 0", "clerkOf 1 0 = 1", "clerkOf 2 0 = 2",
                "turnAt 0 = 1", "turnAt 1 = 2", "turnAt 2 = 11", "turnAt 3 = 21", "holesAt 0 0 = 3",
                "holesAt 0 1 = 4", "freeAt 0 0 = 5", "freeAt 0 1 = 10", "count 10 = 1", "clearText = 78",
                "text void 11;void 002;ask 1 1;close;ask 2 002;", "play = 5", "numberOf 11 4 = 2",
                "numberOf 2 1 = 1", "numberOf 5 0 = 2", "numberOf 5 3 = 0", "numberOf 6 4 = 3", "turnAt 6 = 32",
                "numberOf 31 3 = 1", "count 1 = 1");
        Rows.run("promise 23, again and again", "text close;close;", "play = 2", "play = 2", "count 1 = 4",
                "count 10 = 2", "undo = 1", "count 1 = 2");
    }

    private static void playIsOneChange() {
        Rows.run("promise 23, no commands", "play = 0", "count 10 = 1", "play = 0", "count 10 = 2", "undo = 1",
                "undo = 0", "undo = -2");
        Rows.run("promise 23, one change", "clerk 0 = 0", "text ask 0 3;close;ask 0 1;close;", "play = 4",
                "count 10 = 2", "undo = 1", "count 1 = 0", "count 2 = 0", "clerkOf 0 1 = 0", "count 11 = 28",
                "next 0 = 1");
        Rows.run("promise 23, a fault changes nothing", "clerk 0 = 0", "text ask 0 3;close;ask 1 1;", "play = -2",
                "count 2 = 0", "count 1 = 0", "count 10 = 1", "count 11 = 22", "clerk 0 = 1", "play = 3",
                "count 2 = 4", "count 10 = 3");
        Rows.run("promise 23, the history's oldest goes", "clerk 0 = 0", "clerk 0 = 1", "clerk 0 = 2", "clerk 0 = 3",
                "text close;", "play = 1", "count 10 = 4", "undo = 3", "undo = 2", "undo = 1", "undo = 0",
                "count 0 = 1");
    }
}
