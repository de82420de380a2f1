import java.util.ArrayDeque;
import java.util.ArrayList;
import java.util.Deque;
import java.util.HashMap;
import java.util.List;
import java.util.Map;
import java.util.TreeSet;
import java.util.regex.Matcher;
import java.util.regex.Pattern;

/** The document once more, written another way (sets, records of givings, patterns), to compare answers with. */
final class Model {
    private static final int BAD = -1;
    private static final int IMPOSSIBLE = -2;
    private static final int LIMIT = -3;
    private static final int MISSING = -4;
    private static final Pattern COMMAND = Pattern.compile(
            "(?:clerk (careful|lazy|dreamy)|(ask) (\\d{1,3}) (\\d{1,3})|(forget|back|void) (\\d{1,3})|(close));");
    private static final List<String> KINDS = List.of("careful", "lazy", "dreamy");

    /** A number was given by a clerk on a day. */
    private record Giving(int number, int clerk, int day) { }

    /** A number's hole: its reason and its clerk, -1 if there is none. */
    private record Hole(int reason, int clerk) { }

    private static final class Person {
        int kind;
        int mark;
        int blocks;
        TreeSet<Integer> holds = new TreeSet<>();
    }

    private static final class World {
        TreeSet<Integer> fresh = new TreeSet<>();
        TreeSet<Integer> free = new TreeSet<>();
        List<Giving> givings = new ArrayList<>();
        Map<Integer, Integer> turns = new HashMap<>();
        Map<Integer, Hole> holes = new HashMap<>();
        List<Person> people = new ArrayList<>();
        int[] settings = {10, 1, 4};
        int day;

        World copy() {
            World other = new World();
            other.fresh.addAll(fresh);
            other.free.addAll(free);
            other.givings.addAll(givings);
            other.turns.putAll(turns);
            other.holes.putAll(holes);
            other.settings = settings.clone();
            other.day = day;
            for (Person person : people) {
                Person twin = new Person();
                twin.kind = person.kind;
                twin.mark = person.mark;
                twin.blocks = person.blocks;
                twin.holds.addAll(person.holds);
                other.people.add(twin);
            }
            return other;
        }

        Hole hole(int number) {
            return holes.get(number);
        }

        Giving giving(int number) {
            return turns.containsKey(number) ? givings.get(turns.get(number)) : null;
        }

        Person holder(int number) {
            return people.stream().filter(p -> p.holds.contains(number)).findFirst().orElse(null);
        }

        int state(int number) {
            if (hole(number) != null) {
                return 4;
            }
            if (fresh.contains(number)) {
                return 0;
            }
            if (free.contains(number)) {
                return 3;
            }
            return giving(number) != null ? 2 : 1;
        }

        int clerk(int number) {
            switch (state(number)) {
                case 1: return people.indexOf(holder(number));
                case 2: return giving(number).clerk;
                case 4: return hole(number).clerk;
                default: return -1;
            }
        }

        boolean late(int number) {
            for (Giving giving : givings) {
                if (giving.number == number) {
                    return false;
                }
                if (giving.number > number) {
                    return true;
                }
            }
            return false;
        }

        boolean known(int clerk) {
            return clerk >= 0 && clerk < people.size();
        }
    }

    private World world = new World();
    private final Deque<World> history = new ArrayDeque<>();
    private final StringBuilder text = new StringBuilder();

    Model() {
        for (int n = 1; n <= 600; n++) {
            world.fresh.add(n);
        }
    }

    int call(String name, int a, int b, int c) {
        switch (name) {
            case "numberOf": return numberOf(a, b);
            case "clerkOf": return clerkOf(a, b);
            case "holesAt": return b < 0 || b > 3 || a < 0 ? BAD : rowAt(4, a, b);
            case "freeAt": return b < 0 || b > 1 || a < 0 ? BAD : rowAt(3, a, b);
            case "turnAt": return a < 0 ? BAD : a < world.givings.size() ? world.givings.get(a).number : MISSING;
            case "among": return among(a, b, c);
            case "count": return count(a);
            case "next": return next(a);
            case "cost": return cost(a, b);
            case "worst": return worst();
            case "undo": return undo();
            case "type": return type(a);
            case "clearText": return clearText();
            case "fault": return fault(a);
            case "play": return play();
            default: return changed(name, a, b);
        }
    }

    private int changed(String name, int a, int b) {
        World before = world.copy();
        int answer = change(world, name, a, b);
        if (answer < 0) {
            world = before;
        } else {
            push(before);
        }
        return answer;
    }

    private void push(World before) {
        history.addLast(before);
        if (history.size() == 5) {
            history.removeFirst();
        }
    }

    private static int change(World w, String name, int a, int b) {
        switch (name) {
            case "clerk": return addClerk(w, a);
            case "ask": return ask(w, a, b);
            case "forget": return forget(w, a);
            case "giveBack": return giveBack(w, a);
            case "makeVoid": return makeVoid(w, a);
            case "close": return close(w);
            case "set": return set(w, a, b);
            default: throw new IllegalArgumentException(name);
        }
    }

    private static int addClerk(World w, int kind) {
        if (kind < 0 || kind > 2) {
            return BAD;
        }
        if (w.people.size() == 6) {
            return LIMIT;
        }
        Person person = new Person();
        person.kind = kind;
        w.people.add(person);
        return w.people.size() - 1;
    }

    /** Gives one number after the other; the caller puts the world back if they run out. */
    private static int ask(World w, int clerk, int many) {
        if (!w.known(clerk) || many < 1 || many > 50) {
            return BAD;
        }
        Person person = w.people.get(clerk);
        int last = 0;
        for (int i = 0; i < many; i++) {
            if (person.holds.isEmpty() && !getBlock(w, person)) {
                return LIMIT;
            }
            int top = person.holds.last();
            last = person.holds.pollFirst();
            w.turns.put(last, w.givings.size());
            w.givings.add(new Giving(last, clerk, w.day));
            if (person.kind == 0) {
                person.mark = last;
            }
            if (person.kind == 1 && last > person.mark) {
                person.mark = Math.min(last + w.settings[2] - 1, top);
            }
        }
        return last;
    }

    private static boolean getBlock(World w, Person person) {
        TreeSet<Integer> source = w.settings[1] == 1 && !w.free.isEmpty() ? w.free : w.fresh;
        if (source.isEmpty()) {
            return false;
        }
        int start = source.first();
        for (int n = start; n < start + w.settings[0] && source.contains(n); n++) {
            person.holds.add(n);
        }
        source.removeAll(new ArrayList<>(person.holds));
        person.blocks++;
        person.mark = person.kind == 2 ? person.holds.last() : start - 1;
        return true;
    }

    private static int forget(World w, int clerk) {
        if (!w.known(clerk)) {
            return BAD;
        }
        Person person = w.people.get(clerk);
        if (person.holds.isEmpty()) {
            return IMPOSSIBLE;
        }
        int many = 0;
        while (!person.holds.isEmpty() && person.holds.first() <= person.mark) {
            w.holes.put(person.holds.pollFirst(), new Hole(0, clerk));
            many++;
        }
        return many;
    }

    private static int giveBack(World w, int clerk) {
        if (!w.known(clerk)) {
            return BAD;
        }
        Person person = w.people.get(clerk);
        int many = person.holds.size();
        if (many == 0) {
            return IMPOSSIBLE;
        }
        for (int n : person.holds) {
            if (w.settings[1] == 1) {
                w.free.add(n);
            } else {
                w.holes.put(n, new Hole(1, clerk));
            }
        }
        person.holds.clear();
        return many;
    }

    private static int makeVoid(World w, int number) {
        if (number < 1 || number > 600) {
            return BAD;
        }
        if (w.state(number) != 2) {
            return IMPOSSIBLE;
        }
        int clerk = w.giving(number).clerk;
        w.holes.put(number, new Hole(2, clerk));
        return clerk;
    }

    private static int close(World w) {
        int before = w.holes.size();
        for (int i = 0; i < w.people.size(); i++) {
            for (int n : w.people.get(i).holds) {
                w.holes.put(n, new Hole(3, i));
            }
            w.people.get(i).holds.clear();
        }
        for (int n : w.free) {
            w.holes.put(n, new Hole(3, -1));
        }
        w.free.clear();
        w.day++;
        return w.holes.size() - before;
    }

    private static int set(World w, int what, int value) {
        boolean fine = what == 0 ? value >= 1 && value <= 50 : what == 1 ? value == 0 || value == 1
                : what == 2 && value >= 2 && value <= 10;
        if (!fine) {
            return BAD;
        }
        int old = w.settings[what];
        w.settings[what] = value;
        return old;
    }

    private int numberOf(int number, int what) {
        if (number < 1 || number > 600 || what < 0 || what > 5) {
            return BAD;
        }
        Giving giving = world.giving(number);
        Hole hole = world.hole(number);
        switch (what) {
            case 0: return world.state(number);
            case 1: return world.clerk(number) < 0 ? MISSING : world.clerk(number);
            case 2: return giving == null ? MISSING : world.turns.get(number);
            case 3: return giving == null ? MISSING : giving.day;
            case 4: return hole == null ? MISSING : hole.reason;
            default: return giving == null ? MISSING : world.late(number) ? 1 : 0;
        }
    }

    private int clerkOf(int clerk, int what) {
        if (!world.known(clerk) || what < 0 || what > 9) {
            return BAD;
        }
        Person person = world.people.get(clerk);
        List<Giving> own = world.givings.stream().filter(g -> g.clerk == clerk).toList();
        if (person.holds.isEmpty() && what >= 2 && what <= 4 || own.isEmpty() && what == 9) {
            return MISSING;
        }
        switch (what) {
            case 0: return person.kind;
            case 1: return person.holds.size();
            case 2: return person.holds.first();
            case 3: return person.holds.last();
            case 4: return person.mark;
            case 5: return own.size();
            case 6: return (int) world.holes.values().stream().filter(h -> h.clerk == clerk).count();
            case 7: return (int) world.holes.values().stream().filter(h -> h.clerk == clerk && h.reason == 0).count();
            case 8: return person.blocks;
            default: return own.get(own.size() - 1).number;
        }
    }

    /** The rows of a state, each as first, last, reason, clerk. */
    private List<int[]> rows(int state) {
        List<int[]> rows = new ArrayList<>();
        for (int n = 1; n <= 600; n++) {
            if (world.state(n) != state) {
                continue;
            }
            int reason = state == 4 ? world.hole(n).reason : MISSING;
            int clerk = world.clerk(n) < 0 ? MISSING : world.clerk(n);
            int[] last = rows.isEmpty() ? null : rows.get(rows.size() - 1);
            if (last != null && last[1] == n - 1 && last[2] == reason && last[3] == clerk) {
                last[1] = n;
            } else {
                rows.add(new int[] {n, n, reason, clerk});
            }
        }
        return rows;
    }

    private int rowAt(int state, int index, int what) {
        List<int[]> rows = rows(state);
        return index < rows.size() ? rows.get(index)[what] : MISSING;
    }

    private int among(int from, int to, int state) {
        boolean fine = state >= 0 && state <= 4 || state >= 10 && state <= 13;
        if (from < 1 || to < from || to > 600 || !fine) {
            return BAD;
        }
        int many = 0;
        for (int n = from; n <= to; n++) {
            int own = world.state(n);
            if (own == state || own == 4 && world.hole(n).reason + 10 == state) {
                many++;
            }
        }
        return many;
    }

    private int count(int what) {
        switch (what) {
            case 0: return world.people.size();
            case 1: return world.day;
            case 2: return world.givings.size();
            case 3: return world.people.stream().mapToInt(p -> p.holds.size()).sum();
            case 4: return world.free.size();
            case 5: return world.holes.size();
            case 6: return world.fresh.isEmpty() ? 601 : world.fresh.first();
            case 7: return (int) world.givings.stream().filter(g -> world.late(g.number)).count();
            case 8: {
                int n = 0;
                while (n < 600 && world.state(n + 1) == 2) {
                    n++;
                }
                return n;
            }
            case 9: return rows(4).size();
            case 10: return history.size();
            case 11: return text.length();
            default: return what >= 20 && what <= 22 ? world.settings[what - 20] : BAD;
        }
    }

    /** What ask() would answer for one number tells it. */
    private int next(int clerk) {
        return ask(world.copy(), clerk, 1);
    }

    private int cost(int clerk, int many) {
        World other = world.copy();
        int answer = many == 0 && world.known(clerk) ? 0 : ask(other, clerk, many);
        return answer < 0 ? answer : Math.max(0, forget(other, clerk));
    }

    private int worst() {
        int worst = MISSING;
        int most = 0;
        for (int i = 0; i < world.people.size(); i++) {
            int holes = forget(world.copy(), i);
            if (holes > most) {
                most = holes;
                worst = i;
            }
        }
        return worst;
    }

    private int undo() {
        if (history.isEmpty()) {
            return IMPOSSIBLE;
        }
        world = history.removeLast();
        return history.size();
    }

    private int type(int character) {
        if (character < 32 || character > 126) {
            return BAD;
        }
        if (text.length() == 80) {
            return LIMIT;
        }
        text.append((char) character);
        return text.length();
    }

    private int clearText() {
        int before = text.length();
        text.setLength(0);
        return before;
    }

    /** Does the text in a world: position and reason of its fault, or how many commands and reason 0. */
    private int[] walk(World w) {
        Matcher matcher = COMMAND.matcher(text);
        int at = 0;
        int done = 0;
        while (at < text.length()) {
            matcher.region(at, text.length());
            if (!matcher.lookingAt()) {
                return new int[] {at, 1};
            }
            int answer = order(w, matcher);
            if (answer < 0) {
                return new int[] {at, answer == BAD ? 2 : 3};
            }
            at = matcher.end();
            done++;
        }
        return new int[] {done, 0};
    }

    private static int order(World w, Matcher command) {
        if (command.group(1) != null) {
            return addClerk(w, KINDS.indexOf(command.group(1)));
        }
        if (command.group(2) != null) {
            return ask(w, Integer.parseInt(command.group(3)), Integer.parseInt(command.group(4)));
        }
        if (command.group(7) != null) {
            return close(w);
        }
        int argument = Integer.parseInt(command.group(6));
        switch (command.group(5)) {
            case "forget": return forget(w, argument);
            case "back": return giveBack(w, argument);
            default: return makeVoid(w, argument);
        }
    }

    private int fault(int what) {
        if (what != 0 && what != 1) {
            return BAD;
        }
        int[] found = walk(world.copy());
        return found[1] == 0 ? MISSING : found[what];
    }

    private int play() {
        World other = world.copy();
        int[] found = walk(other);
        if (found[1] != 0) {
            return IMPOSSIBLE;
        }
        push(world);
        world = other;
        return found[0];
    }
}
