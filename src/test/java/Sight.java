import java.util.ArrayList;
import java.util.Arrays;
import java.util.HashMap;
import java.util.List;
import java.util.Map;

/**
 * All that can be seen of an object after a run of calls: every answer to every question, and how it goes on
 * from there. An object has 512 calls at most, so the run is done anew on one object after the other.
 */
final class Sight {
    private static final int MOST_CALLS = 512;
    private static final String ALL_OF_SUMMARY = "?";
    private static final List<String> SUMMARY = summary();
    private static final List<String> QUESTIONS = questions();
    /** Ways to go on; a "?" stands for all the questions of the summary. */
    private static final List<String> FUTURES = List.of("undo,?,undo,?,undo,?", "undo,undo,undo,undo,?,undo",
            "play,?,clearText,?,undo,?", "clearText,?", "type 59,?", "close,?", "set 0 7,clerk 1,?,undo,undo,?",
            "ask 0 3,ask 1 3,ask 2 3,ask 3 3,ask 4 3,ask 5 3,?", "forget 0,forget 1,forget 2,forget 3,?",
            "giveBack 0,giveBack 1,giveBack 2,giveBack 3,?,ask 0 12,?");
    private static final Map<String, Sight> KNOWN = new HashMap<>();

    private final String[] ahead;
    private final int callsAhead;
    private final List<String> asked = new ArrayList<>();
    private final List<Integer> answers = new ArrayList<>();
    private BlockClerks office;
    private int calls;

    private Sight(String... ahead) {
        this.ahead = ahead;
        int many = 0;
        for (String row : ahead) {
            many += row.startsWith("text ") ? row.length() - 5 : 1;
        }
        callsAhead = many;
        askAll();
        for (String future : FUTURES) {
            goOn(future);
        }
    }

    /** What is seen after these rows; whether their answers are the due ones is not looked at here. */
    static Sight after(String... rows) {
        return KNOWN.computeIfAbsent(String.join("\n", rows), key -> new Sight(rows));
    }

    /** What is seen of new objects, looked at once more. */
    static Sight afresh() {
        return new Sight();
    }

    /** Tells the first difference, "" if there is none. */
    String differenceFrom(Sight other) {
        for (int i = 0; i < answers.size() && i < other.answers.size(); i++) {
            if (!answers.get(i).equals(other.answers.get(i))) {
                return asked.get(i) + " = " + answers.get(i) + " and not " + other.answers.get(i);
            }
        }
        return answers.size() == other.answers.size() ? "" : "not the same questions";
    }

    private void begin() {
        office = new BlockClerks();
        for (String row : ahead) {
            Rows.answer(office, row);
        }
        calls = callsAhead;
    }

    private void ask(String row) {
        calls++;
        if (calls > MOST_CALLS) {
            throw new IllegalStateException("too many calls after " + Arrays.toString(ahead));
        }
        asked.add(row);
        answers.add(Rows.answer(office, row));
    }

    private void askAll() {
        calls = MOST_CALLS;
        for (String question : QUESTIONS) {
            if (calls >= MOST_CALLS) {
                begin();
            }
            ask(question);
        }
    }

    private static List<String> questions() {
        List<String> all = new ArrayList<>(summary());
        for (int number = 1; number <= 600; number++) {
            for (int what = 0; what <= 5; what++) {
                all.add("numberOf " + number + " " + what);
            }
            all.add("turnAt " + (number - 1));
        }
        for (int index = 0; index < 20; index++) {
            for (int what = 0; what <= 3; what++) {
                all.add("holesAt " + index + " " + what);
            }
            all.add("freeAt " + index + " 0");
            all.add("freeAt " + index + " 1");
        }
        for (int clerk = 0; clerk <= 6; clerk++) {
            for (int many = 0; many <= 50; many++) {
                all.add("cost " + clerk + " " + many);
            }
        }
        return all;
    }

    /** The questions that one object can answer several times in its 512 calls. */
    private static List<String> summary() {
        List<String> all = new ArrayList<>();
        for (int what = 0; what <= 22; what += what == 11 ? 9 : 1) {
            all.add("count " + what);
        }
        for (int state = 0; state <= 13; state += state == 4 ? 6 : 1) {
            all.add("among 1 600 " + state);
        }
        for (int clerk = 0; clerk <= 5; clerk++) {
            for (int what = 0; what <= 9; what++) {
                all.add("clerkOf " + clerk + " " + what);
            }
            all.add("next " + clerk);
        }
        all.addAll(List.of("worst", "fault 0", "fault 1"));
        return all;
    }

    private void goOn(String future) {
        begin();
        for (String step : future.split(",")) {
            if (step.equals(ALL_OF_SUMMARY)) {
                SUMMARY.forEach(this::ask);
            } else {
                ask(step);
            }
        }
    }
}
