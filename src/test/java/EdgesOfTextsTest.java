/** The boundary cases of promises 20 to 23, and of texts: a test for each sentence. */
public final class EdgesOfTextsTest {
    public static void main(String[] args) {
        characterOutOfRange();
        eightyCharacters();
        clearingATextOfEachLength();
        whatOfFaultOutOfRange();
        noFault();
        positionOfTheFault();
        form();
        digits();
        rangesOfClerks();
        rangesOfMany();
        rangesOfNumbers();
        notPossibleOtherwise();
        firstOfTheReasons();
        whenThoseAheadAreDone();
        faultChangesNothing();
        playOfNone();
        playOfMost();
        playOfAFault();
        playIsOneChange();
        Rows.end();
    }

    /** Promise 20: "character: 32 to 126", "INVALID_ARGUMENT if character is out of range". */
    private static void characterOutOfRange() {
        Rows.run("promise 20, the ends", "type 32 = 1", "type 33 = 2", "type 125 = 3", "type 126 = 4", "count 11 = 4");
        Rows.refusesOutside("promise 20, character", Beginnings.NOTHING, "type #", 32, 126);
        Rows.refusesOutside("promise 20, character", Beginnings.MIXED, "type #", 32, 126);
        Rows.changesNothing("promise 20, greater than a char", Beginnings.MIXED, "type 65595 = -1", "type 315 = -1");
    }

    /** Promise 20: "LIMIT_REACHED if it has 80 characters"; INVALID_ARGUMENT rather than that. */
    private static void eightyCharacters() {
        String[] ahead = {"text close;close;close;close;close;close;close;close;close;close;close;close;close"};
        Rows.runAfter("promise 20, the last ones", ahead, "count 11 = 77", "type 59 = 78", "fault 0 = -4", "type 99 = 79",
                "type 108 = 80", "type 59 = -3", "count 11 = 80", "fault 0 = 78");
        Rows.changesNothing("promise 20, it has 80", Beginnings.FULL_TEXT, "type 59 = -3", "type 32 = -3", "type 126 = -3");
        Rows.refusesOutside("promise 20, it has 80", Beginnings.FULL_TEXT, "type #", 32, 126);
        Rows.runAfter("promise 20, it had 80", Beginnings.FULL_TEXT, "clearText = 80", "type 59 = 1");
    }

    /** Promise 21: "Empties the text. Returns the length it had." */
    private static void clearingATextOfEachLength() {
        Rows.changesNothing("promise 21, of none", Beginnings.NOTHING, "clearText = 0");
        Rows.run("promise 21, of one", "type 59 = 1", "clearText = 1", "count 11 = 0", "clearText = 0", "fault 0 = -4");
        Rows.runAfter("promise 21, of 80", Beginnings.FULL_TEXT, "clearText = 80", "count 11 = 0", "clearText = 0");
        Rows.run("promise 21, nothing is left of it", "text close;", "clearText = 6", "text clos", "fault 0 = 0",
                "fault 1 = 1", "type 101 = 5", "fault 1 = 1", "type 59 = 6", "fault 1 = -4");
    }

    /** Promise 22: "what: 0 .. 1"; INVALID_ARGUMENT rather than NOT_FOUND. */
    private static void whatOfFaultOutOfRange() {
        Rows.runAfter("promise 22, the ends", Beginnings.MIXED, "fault 0 = 11", "fault 1 = 3");
        Rows.refusesOutside("promise 22, what", Beginnings.MIXED, "fault #", 0, 1);
        Rows.refusesOutside("promise 22, what of an empty text", Beginnings.NOTHING, "fault #", 0, 1);
        Rows.refusesOutside("promise 22, what without a fault", new String[] {"text close;"}, "fault #", 0, 1);
    }

    /** Promise 22: "NOT_FOUND if the text has no fault (also if it is empty)". */
    private static void noFault() {
        Rows.changesNothing("promise 22, empty", Beginnings.NOTHING, "fault 0 = -4", "fault 1 = -4");
        Rows.changesNothing("promise 22, no fault", new String[] {"text close;"}, "fault 0 = -4", "fault 1 = -4");
        Rows.run("promise 22, emptied", "text x", "fault 0 = 0", "clearText = 1", "fault 0 = -4", "fault 1 = -4");
        Rows.run("promise 22, with as many commands as there is room for",
                "text close;close;close;close;close;close;close;close;close;close;close;close;close;", "count 11 = 78",
                "fault 0 = -4", "fault 1 = -4", "type 32 = 79", "fault 0 = 78", "fault 1 = 1");
    }

    /** "The position, from 0, of the first character of the first command that is not possible." */
    private static void positionOfTheFault() {
        fault("x", 0, 1);
        fault("close;x", 6, 1);
        fault("close;close;back 0;", 12, 2);
        fault("close;back 0;x", 6, 2);
        fault("clerk lazy;back 0;x", 11, 3);
        fault("close;close;close;close;close;close;close;close;close;close;close;close;close;x", 78, 1);
        fault("close;close;close;close;close;close;close;close;close;close;close;close;void 60;", 72, 3);
    }

    private static void fault(String text, int position, int reason) {
        Rows.changesNothing("promise 22, " + text, new String[] {"text " + text}, "fault 0 = " + position,
                "fault 1 = " + reason, "play = -2");
    }

    private static void noFault(String text, int commands) {
        Rows.run("promise 22, " + text, "text " + text, "fault 0 = -4", "fault 1 = -4", "count 10 = 0",
                "play = " + commands, "count 10 = 1");
    }

    /** "It is not of this form, its ";" included": each command cut short, with something more, or with other blanks. */
    private static void form() {
        String[] commands = {"clerk careful;", "clerk lazy;", "clerk dreamy;", "ask 0 1;", "forget 0;", "back 0;", "void 1;",
            "close;"};
        for (String command : commands) {
            for (int end = 1; end < command.length(); end++) {
                String ahead = command.substring(0, end);
                String behind = command.substring(end);
                badForm(ahead);
                badForm(behind);
                badForm(ahead + " " + behind);
                badForm(ahead + "~" + behind);
                badForm(ahead + behind.substring(1));
                if (!behind.equals(";")) {
                    badForm(ahead + ";");
                }
            }
            badForm(" " + command);
            badForm(";" + command);
            badForm(command.substring(0, 1).toUpperCase() + command.substring(1));
        }
    }

    /** A text that is not of the form, wherever it stands. */
    private static void badForm(String form) {
        Rows.run("promise 22, " + form, "text " + form, "fault 0 = 0", "fault 1 = 1", "play = -2", "count 10 = 0");
        Rows.run("promise 22, later: " + form, "text clerk dreamy;ask 0 1;" + form, "fault 0 = 21", "fault 1 = 1",
                "play = -2", "count 0 = 0");
    }

    /** "Numbers have one to three digits, 0 ahead allowed." */
    private static void digits() {
        noFault("clerk dreamy;ask 0 1;ask 00 01;ask 000 001;forget 0;", 5);
        noFault("clerk dreamy;ask 0 1;forget 00;ask 0 1;forget 000;", 5);
        noFault("clerk dreamy;ask 0 1;back 00;ask 0 1;back 000;", 5);
        noFault("clerk dreamy;ask 0 3;void 1;void 02;void 003;", 5);
        noFault("clerk dreamy;ask 0 50;ask 0 50;void 100;void 099;void 10;", 6);
        String[] wrong = {"ask  1;", "ask 0 ;", "ask 0000 1;", "ask 0 0001;", "ask 0 1000;", "forget ;", "forget 0000;",
            "back ;", "back 0000;", "void ;", "void 0001;", "void 1000;", "void 6000;", "void /;", "void :;", "ask / 1;",
            "ask : 1;", "ask 0 /;", "ask 0 :;", "void -1;", "void +1;", "void 1.;", "void 1 1;", "ask 0 1 1;", "forget 0 0;"};
        for (String command : wrong) {
            badForm(command);
        }
    }

    /** "2 an argument is out of its range": there is no such clerk. */
    private static void rangesOfClerks() {
        String[] commands = {"ask # 1;", "forget #;", "back #;"};
        for (String command : commands) {
            String[] fresh = {"text " + command.replace('#', '0')};
            Rows.changesNothing("promise 22, no clerk", fresh, "fault 0 = 0", "fault 1 = 2", "play = -2");
            int[] clerks = {6, 7, 10, 99, 100, 999};
            for (int clerk : clerks) {
                String[] rows = Rows.after(Beginnings.SIX_CLERKS, "text " + command.replace("#", "" + clerk));
                Rows.runAfter("promise 22, clerk of six", rows, "fault 0 = 0", "fault 1 = 2", "play = -2", "count 10 = 4");
            }
            Rows.runAfter("promise 22, the last of six", Rows.after(Beginnings.SIX_CLERKS, "text " + command.replace('#', '5')),
                    "fault 0 = -4", "fault 1 = -4", "play = 1");
            Rows.runAfter("promise 22, one behind the last", new String[] {"clerk 2 = 0", "ask 0 1 = 1",
                "text " + command.replace('#', '1')}, "fault 1 = 2", "clerk 2 = 1", "ask 1 1 = 11", "fault 1 = -4");
        }
    }

    /** "2 an argument is out of its range": how many, 1 to 50. */
    private static void rangesOfMany() {
        noFault("clerk lazy;ask 0 1;", 2);
        noFault("clerk lazy;ask 0 2;ask 0 49;", 3);
        noFault("clerk lazy;ask 0 50;", 2);
        fault("clerk lazy;ask 0 0;", 11, 2);
        fault("clerk lazy;ask 0 000;", 11, 2);
        fault("clerk lazy;ask 0 51;", 11, 2);
        fault("clerk lazy;ask 0 051;", 11, 2);
        fault("clerk lazy;ask 0 999;", 11, 2);
    }

    /** "2 an argument is out of its range": a number, 1 to 600. */
    private static void rangesOfNumbers() {
        noFault("clerk lazy;ask 0 1;void 1;", 3);
        Rows.runAfter("promise 22, void 600", Beginnings.NONE_LEFT, "text void 600;void 599;", "fault 0 = -4", "play = 2");
        Rows.runAfter("promise 22, void 601", Beginnings.NONE_LEFT, "text void 601;", "fault 0 = 0", "fault 1 = 2");
        Rows.runAfter("promise 22, void 0", Beginnings.NONE_LEFT, "text void 0;", "fault 0 = 0", "fault 1 = 2");
        fault("void 0;", 0, 2);
        fault("void 000;", 0, 2);
        fault("void 1;", 0, 3);
        fault("void 600;", 0, 3);
        fault("void 601;", 0, 2);
        fault("void 999;", 0, 2);
    }

    /** "3 it is not possible otherwise": each reason why a call of this kind is not possible, or reaches a limit. */
    private static void notPossibleOtherwise() {
        fault("clerk lazy;forget 0;", 11, 3);
        fault("clerk lazy;back 0;", 11, 3);
        fault("clerk lazy;ask 0 10;forget 0;", 20, 3);
        fault("clerk lazy;ask 0 10;back 0;", 20, 3);
        fault("clerk lazy;ask 0 1;void 2;", 19, 3);
        fault("clerk lazy;ask 0 1;void 1;void 1;", 26, 3);
        fault("clerk lazy;ask 0 1;close;forget 0;", 25, 3);
        Rows.runAfter("promise 22, a sixth clerk", Beginnings.MIXED, "clearText = 18", "text clerk lazy;clerk lazy;",
                "fault 0 = -4", "play = 2", "count 0 = 6", "fault 0 = 0", "fault 1 = 3", "play = -2");
        Rows.runAfter("promise 22, a seventh clerk", Beginnings.SIX_CLERKS, "text clerk lazy;", "fault 0 = 0", "fault 1 = 3");
        Rows.runAfter("promise 22, the last number", Beginnings.ONE_LEFT, "text ask 0 1;", "fault 0 = -4", "type 97 = 9",
                "fault 0 = 8", "fault 1 = 1", "text sk 1 1;", "fault 0 = 8", "fault 1 = 3");
        Rows.runAfter("promise 22, 50 of 50", Beginnings.FIFTY_LEFT, "text ask 1 50;", "fault 0 = -4", "ask 0 1 = 551",
                "fault 0 = 0", "fault 1 = 3", "play = -2");
    }

    /** "Its reason is the first of these": 1 ahead of 2, 2 ahead of 3. */
    private static void firstOfTheReasons() {
        fault("ask 9 0", 0, 1);
        fault("void 999", 0, 1);
        fault("void 000x;", 0, 1);
        fault("forget 9 ;", 0, 1);
        fault("clerk lazy;forget 0", 11, 1);
        Rows.runAfter("promise 22, a seventh clerk without ;", Beginnings.SIX_CLERKS, "text clerk lazy", "fault 1 = 1",
                "type 59 = 11", "fault 1 = 3");
        Rows.runAfter("promise 22, out of range and not so many", Beginnings.NONE_LEFT, "text ask 0 51;", "fault 1 = 2",
                "clearText = 9", "text ask 2 1;", "fault 1 = 2", "clearText = 8", "text ask 0 0;", "fault 1 = 2",
                "clearText = 8", "text ask 0 1;", "fault 1 = 3", "clearText = 8", "text ask 0 1", "fault 1 = 1");
        Rows.run("promise 22, the first fault, not the worst", "text void 1;void 0;x", "fault 0 = 0", "fault 1 = 3");
    }

    /** "When those ahead of it are done": a command's fault may come, or go, by them. */
    private static void whenThoseAheadAreDone() {
        noFault("clerk lazy;ask 0 1;forget 0;back 0;", 4);
        fault("clerk lazy;ask 0 1;back 0;forget 0;", 26, 3);
        noFault("clerk dreamy;ask 0 1;void 1;", 3);
        fault("clerk dreamy;void 1;ask 0 1;", 13, 3);
        fault("ask 0 1;clerk dreamy;", 0, 2);
        noFault("clerk careful;clerk careful;clerk careful;clerk lazy;clerk lazy;clerk lazy;", 6);
        fault("clerk lazy;clerk lazy;clerk lazy;clerk lazy;clerk lazy;clerk lazy;clerk lazy;", 66, 3);
        noFault("clerk lazy;clerk lazy;clerk lazy;clerk lazy;clerk lazy;clerk lazy;ask 5 1;", 7);
        fault("clerk lazy;clerk lazy;clerk lazy;clerk lazy;clerk lazy;clerk lazy;ask 6 1;", 66, 2);
        Rows.runAfter("promise 22, not so many after those ahead", Beginnings.FIFTY_LEFT, "text ask 0 49;ask 1 1;",
                "fault 0 = 9", "fault 1 = 3", "clearText = 17", "text ask 0 49;ask 0 1;", "fault 0 = -4", "clearText = 17",
                "text ask 0 49;back 0;ask 1 1;", "fault 0 = -4", "clearText = 24", "text ask 0 49;close;ask 0 1;",
                "fault 0 = 15", "fault 1 = 3");
    }

    /** Questions about the text are no changes, and neither is typing it. */
    private static void faultChangesNothing() {
        Rows.changesNothing("promise 22", Beginnings.MIXED, "fault 0 = 11", "fault 1 = 3", "play = -2");
        Rows.changesNothing("promise 22, without a fault", Rows.after(Beginnings.MIXED, "clearText = 18",
                "text ask 0 9;forget 1;back 2;void 1;close;clerk lazy;"), "fault 0 = -4", "fault 1 = -4");
        Rows.runAfter("promise 20 and 21", Beginnings.MIXED, "count 10 = 4", "type 59 = 19", "count 10 = 4",
                "clearText = 19", "count 10 = 4", "count 2 = 7");
    }

    /** Promise 23: "They are one change, also if there are none." */
    private static void playOfNone() {
        Rows.run("promise 23, none", "play = 0", "count 10 = 1", "play = 0", "count 10 = 2", "play = 0", "play = 0",
                "count 10 = 4", "play = 0", "count 10 = 4", "undo = 3");
        Rows.run("promise 23, one", "text close;", "play = 1", "count 10 = 1", "count 1 = 1", "undo = 0", "count 1 = 0");
        Rows.runAfter("promise 23, none, with five states", Beginnings.SIX_CLERKS, "play = 0", "count 10 = 4", "undo = 3",
                "next 5 = 2", "undo = 2", "next 5 = 1", "undo = 1", "count 0 = 5", "undo = 0", "count 0 = 4", "undo = -2");
    }

    /** Promise 23: "Returns how many there are in it", up to 13 in 80 characters; "the text, which stays". */
    private static void playOfMost() {
        Rows.run("promise 23, 13", "text close;close;close;close;close;close;close;close;close;close;close;close;close;",
                "play = 13", "count 1 = 13", "count 11 = 78", "count 10 = 1", "play = 13", "count 1 = 26", "count 11 = 78",
                "undo = 1", "count 1 = 13", "undo = 0", "count 1 = 0", "count 11 = 78");
        Rows.run("promise 23, 80 characters",
                "text clerk lazy;clerk lazy;clerk lazy;clerk lazy;clerk lazy;clerk lazy;ask 0 1;close;", "count 11 = 80",
                "play = 8", "count 1 = 1", "count 0 = 6", "count 11 = 80", "fault 0 = 0", "fault 1 = 3");
    }

    /** Promise 23: "NOT_POSSIBLE if it has a fault": for each reason, and nothing of what is ahead is done. */
    private static void playOfAFault() {
        String[] texts = {"ask 0 1;forget 1;back 2;close;clerk lazy", "ask 0 1;forget 1;back 2;close;ask 9 1;",
            "ask 0 1;forget 1;back 2;close;forget 0;", "x", ";", "ask 0 1;ask 0 1;ask 0 1;ask 0 1;ask 0 1;void 001;void 001;"};
        for (String text : texts) {
            Rows.changesNothing("promise 23, " + text, Rows.after(Beginnings.MIXED, "clearText = 18", "text " + text),
                    "play = -2");
        }
        Rows.changesNothing("promise 23, 80 characters", Beginnings.FULL_TEXT, "play = -2");
        Rows.run("promise 23, the fault goes", "text clerk lazy;back 0;", "play = -2", "clearText = 18", "text clerk lazy;",
                "play = 1", "clearText = 11", "text back 0;", "play = -2", "ask 0 1 = 1", "play = 1", "play = -2");
    }

    /** Promise 23: "Does all commands of the text": what each does is what its call does. */
    private static void playIsOneChange() {
        Sight played = Sight.after("text clerk careful;clerk lazy;clerk dreamy;ask 2 12;ask 1 3;ask 0 1;forget 1;", "play = 7",
                "clearText = 75", "text back 2;void 12;close;", "play = 3", "clearText = 21", "undo = 1", "undo = 0",
                "text clerk careful;clerk lazy;clerk dreamy;ask 2 12;ask 1 3;ask 0 1;forget 1;", "play = 7",
                "clearText = 75", "text back 2;void 12;close;", "play = 3", "clearText = 21", "set 0 10 = 10",
                "set 0 10 = 10", "set 0 10 = 10", "set 0 10 = 10");
        Sight called = Sight.after("clerk 0 = 0", "clerk 1 = 1", "clerk 2 = 2", "ask 2 12 = 12", "ask 1 3 = 23",
                "ask 0 1 = 31", "forget 1 = 1", "giveBack 2 = 8", "makeVoid 12 = 2", "close = 23", "set 0 10 = 10",
                "set 0 10 = 10", "set 0 10 = 10", "set 0 10 = 10");
        String difference = played.differenceFrom(called);
        Rows.due("promise 23, played as called, but " + difference, difference.isEmpty());
    }
}
