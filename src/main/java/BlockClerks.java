/** An office that gives numbers by blocks, which it hands out to clerks. DOC.md tells its promises. */
public final class BlockClerks {
    public static final int INVALID_ARGUMENT = -1;
    public static final int NOT_POSSIBLE = -2;
    public static final int LIMIT_REACHED = -3;
    public static final int NOT_FOUND = -4;

    private static final int LAST_NUMBER = 600;
    private static final int MOST_CLERKS = 6;
    private static final int MOST_ASKED = 50;
    private static final int MOST_STATES = 4;
    private static final int MOST_SIGNS = 80;

    /** No clerk, no reason, no turn, no day, no place. */
    private static final int NONE = -1;

    private static final int NEW = 0;
    private static final int HELD = 1;
    private static final int GIVEN = 2;
    private static final int FREE = 3;
    private static final int HOLE = 4;

    private static final int FORGOTTEN = 0;
    private static final int GIVEN_BACK = 1;
    private static final int VOID = 2;
    private static final int CLOSED = 3;

    /** What among() adds to a reason, to tell it from a state. */
    private static final int REASONS_FROM = 10;

    private static final int CAREFUL = 0;
    private static final int LAZY = 1;
    private static final int DREAMY = 2;

    private static final int BLOCK_LENGTH = 0;
    private static final int FREE_AGAIN = 1;
    private static final int LAZY_STEP = 2;
    private static final int SETTINGS = 3;

    /** What count() adds to a setting. */
    private static final int SETTINGS_FROM = 20;

    private static final int ADD_CLERK = 0;
    private static final int ASK_CLERK = 1;
    private static final int LET_FORGET = 2;
    private static final int TAKE_BACK = 3;
    private static final int VOID_NUMBER = 4;
    private static final int CLOSE_DAY = 5;

    private static final int NO_FAULT = 0;
    private static final int FAULT_OF_FORM = 1;
    private static final int FAULT_OF_RANGE = 2;
    private static final int FAULT_OTHERWISE = 3;

    private final Office office = new Office();
    /** Where a call is tried out first: what fails there leaves the office as it was. */
    private final Office trial = new Office();
    /** The states before the latest changes, the oldest one first; only the first "kept" ones count. */
    private final Office[] history = new Office[MOST_STATES];
    private int kept = 0;
    private final Script script = new Script();
    private int faultPosition = NONE;
    private int faultReason = NO_FAULT;

    public BlockClerks() {
        for (int i = 0; i < history.length; i++) {
            history[i] = new Office();
        }
    }

    // ---- clerks, numbers

    public int clerk(int kind) {
        trial.become(office);
        return adopt(trial.addClerk(kind));
    }

    public int ask(int clerk, int many) {
        trial.become(office);
        return adopt(trial.serve(clerk, many));
    }

    public int forget(int clerk) {
        trial.become(office);
        return adopt(trial.letForget(clerk));
    }

    public int giveBack(int clerk) {
        trial.become(office);
        return adopt(trial.takeBack(clerk));
    }

    public int makeVoid(int number) {
        trial.become(office);
        return adopt(trial.cancel(number));
    }

    public int close() {
        trial.become(office);
        return adopt(trial.endDay());
    }

    public int set(int what, int value) {
        trial.become(office);
        return adopt(trial.change(what, value));
    }

    // ---- what there is

    public int numberOf(int number, int what) {
        return office.numbers.tell(number, what);
    }

    public int clerkOf(int clerk, int what) {
        return office.tellOfClerk(clerk, what);
    }

    public int holesAt(int index, int what) {
        if (index < 0 || what < 0 || what > 3) {
            return INVALID_ARGUMENT;
        }
        return office.numbers.tellOfRow(HOLE, index, what);
    }

    public int freeAt(int index, int what) {
        if (index < 0 || what < 0 || what > 1) {
            return INVALID_ARGUMENT;
        }
        return office.numbers.tellOfRow(FREE, index, what);
    }

    public int turnAt(int turn) {
        return turn < 0 ? INVALID_ARGUMENT : office.numbers.givenIn(turn);
    }

    public int among(int from, int to, int state) {
        boolean isState = state >= NEW && state <= HOLE;
        boolean isReason = state >= REASONS_FROM + FORGOTTEN && state <= REASONS_FROM + CLOSED;
        if (from < 1 || to < from || to > LAST_NUMBER || !(isState || isReason)) {
            return INVALID_ARGUMENT;
        }
        return isState ? office.numbers.inState(from, to, state)
                : office.numbers.withReason(from, to, state - REASONS_FROM);
    }

    public int count(int what) {
        switch (what) {
            case 10:
                return kept;
            case 11:
                return script.length;
            default:
                return office.tally(what);
        }
    }

    // ---- what would be

    public int next(int clerk) {
        return office.upcoming(clerk);
    }

    public int cost(int clerk, int many) {
        if (!office.isClerk(clerk) || many < 0 || many > MOST_ASKED) {
            return INVALID_ARGUMENT;
        }
        trial.become(office);
        int answer = many == 0 ? 0 : trial.serve(clerk, many);
        return answer < 0 ? answer : trial.lossOf(clerk);
    }

    public int worst() {
        return office.mostForgetful();
    }

    public int undo() {
        if (kept <= 0 || kept > history.length) {
            return NOT_POSSIBLE;
        }
        kept--;
        office.become(history[kept]);
        return kept;
    }

    // ---- texts

    public int type(int character) {
        return script.append(character);
    }

    public int clearText() {
        int before = script.length;
        script.length = 0;
        return before;
    }

    public int fault(int what) {
        if (what != 0 && what != 1) {
            return INVALID_ARGUMENT;
        }
        rehearse();
        if (faultReason == NO_FAULT) {
            return NOT_FOUND;
        }
        return what == 0 ? faultPosition : faultReason;
    }

    public int play() {
        int done = rehearse();
        return faultReason == NO_FAULT ? adopt(done) : NOT_POSSIBLE;
    }

    /** Makes the trial's state the office's own, as one change, unless the answer is an error. */
    private int adopt(int answer) {
        if (answer >= 0) {
            remember();
            office.become(trial);
        }
        return answer;
    }

    private void remember() {
        if (kept >= history.length) {
            dropOldest();
        }
        if (kept >= 0 && kept < history.length) {
            history[kept].become(office);
            kept++;
        }
    }

    /** Turns the history by one place, so that the oldest one's room is used again. */
    private void dropOldest() {
        Office oldest = history[0];
        for (int i = 1; i < history.length; i++) {
            history[i - 1] = history[i];
        }
        history[history.length - 1] = oldest;
        kept = history.length - 1;
    }

    /** Does the text's commands in the trial, up to the first fault; returns how many it did. */
    private int rehearse() {
        trial.become(office);
        script.rewind();
        faultPosition = NONE;
        faultReason = NO_FAULT;
        int done = 0;
        while (done < MOST_SIGNS && script.at < script.length) {
            int start = script.at;
            int reason = script.readCommand() ? reasonOf(perform()) : FAULT_OF_FORM;
            if (reason != NO_FAULT) {
                faultPosition = start;
                faultReason = reason;
                return done;
            }
            done++;
        }
        return done;
    }

    private int perform() {
        switch (script.verb) {
            case ADD_CLERK:
                return trial.addClerk(script.first);
            case ASK_CLERK:
                return trial.serve(script.first, script.second);
            case LET_FORGET:
                return trial.letForget(script.first);
            case TAKE_BACK:
                return trial.takeBack(script.first);
            case VOID_NUMBER:
                return trial.cancel(script.first);
            default:
                return trial.endDay();
        }
    }

    private static int reasonOf(int answer) {
        if (answer >= 0) {
            return NO_FAULT;
        }
        return answer == INVALID_ARGUMENT ? FAULT_OF_RANGE : FAULT_OTHERWISE;
    }

    /** The numbers 1 to 600, with what is known of each one; the arrays' place 0 is not used. */
    private static final class Numbers {
        final int[] state = new int[LAST_NUMBER + 1];
        final int[] owner = new int[LAST_NUMBER + 1];
        final int[] reason = new int[LAST_NUMBER + 1];
        final int[] turn = new int[LAST_NUMBER + 1];
        final int[] day = new int[LAST_NUMBER + 1];
        /** The number that was given in each turn. */
        final int[] inTurn = new int[LAST_NUMBER];
        int turns = 0;
        /** New numbers are only taken from the lowest one on: those from here on are new, no others. */
        int firstNew = 1;

        Numbers() {
            for (int n = 0; n <= LAST_NUMBER; n++) {
                owner[n] = NONE;
                reason[n] = NONE;
                turn[n] = NONE;
                day[n] = NONE;
            }
        }

        void become(Numbers other) {
            System.arraycopy(other.state, 0, state, 0, state.length);
            System.arraycopy(other.owner, 0, owner, 0, owner.length);
            System.arraycopy(other.reason, 0, reason, 0, reason.length);
            System.arraycopy(other.turn, 0, turn, 0, turn.length);
            System.arraycopy(other.day, 0, day, 0, day.length);
            System.arraycopy(other.inTurn, 0, inTurn, 0, inTurn.length);
            turns = other.turns;
            firstNew = other.firstNew;
        }

        static boolean isNumber(int number) {
            return number >= 1 && number <= LAST_NUMBER;
        }

        /** Gives a state, a clerk and a reason to the numbers from first to last; none of them is new then. */
        void put(int first, int last, int newState, int newOwner, int newReason) {
            int end = Math.min(last, LAST_NUMBER);
            for (int n = Math.max(first, 1); n <= end; n++) {
                state[n] = newState;
                owner[n] = newOwner;
                reason[n] = newReason;
            }
            firstNew = Math.max(firstNew, end + 1);
        }

        void give(int number, int clerk, int today) {
            if (!isNumber(number) || turns < 0 || turns >= inTurn.length) {
                return;
            }
            put(number, number, GIVEN, clerk, NONE);
            turn[number] = turns;
            day[number] = today;
            inTurn[turns] = number;
            turns++;
        }

        /** All that clerks hold and all free ones become holes; returns how many. */
        int closeAll() {
            int many = 0;
            for (int n = 1; n <= LAST_NUMBER; n++) {
                if (state[n] == HELD || state[n] == FREE) {
                    put(n, n, HOLE, owner[n], CLOSED);
                    many++;
                }
            }
            return many;
        }

        /** The lowest free number, NONE if there is none. */
        int lowestFree() {
            for (int n = 1; n <= LAST_NUMBER && n < firstNew; n++) {
                if (state[n] == FREE) {
                    return n;
                }
            }
            return NONE;
        }

        /** Whether a number and the next one have the same state, clerk and reason. */
        boolean goesOn(int number) {
            return number >= 1 && number < LAST_NUMBER && state[number] == state[number + 1]
                    && owner[number] == owner[number + 1] && reason[number] == reason[number + 1];
        }

        /** The last one, up to a limit, of the numbers one behind another that are like the first one. */
        int lastOfRow(int first, int limit) {
            int last = first;
            while (last < limit && goesOn(last)) {
                last++;
            }
            return last;
        }

        boolean startsRow(int number, int wanted) {
            return isNumber(number) && state[number] == wanted && !goesOn(number - 1);
        }

        int rows(int wanted) {
            int many = 0;
            for (int n = 1; n <= LAST_NUMBER; n++) {
                if (startsRow(n, wanted)) {
                    many++;
                }
            }
            return many;
        }

        /** The first number of the row with this index, NONE if there are not so many rows. */
        int startOfRow(int wanted, int index) {
            int ahead = 0;
            for (int n = 1; n <= LAST_NUMBER; n++) {
                if (startsRow(n, wanted)) {
                    if (ahead == index) {
                        return n;
                    }
                    ahead++;
                }
            }
            return NONE;
        }

        int tellOfRow(int wanted, int index, int what) {
            int first = startOfRow(wanted, index);
            if (!isNumber(first)) {
                return NOT_FOUND;
            }
            switch (what) {
                case 0:
                    return first;
                case 1:
                    return lastOfRow(first, LAST_NUMBER);
                case 2:
                    return orNotFound(reason[first]);
                case 3:
                    return orNotFound(owner[first]);
                default:
                    return INVALID_ARGUMENT;
            }
        }

        int tell(int number, int what) {
            if (!isNumber(number)) {
                return INVALID_ARGUMENT;
            }
            switch (what) {
                case 0:
                    return state[number];
                case 1:
                    return orNotFound(owner[number]);
                case 2:
                    return orNotFound(turn[number]);
                case 3:
                    return orNotFound(day[number]);
                case 4:
                    return orNotFound(reason[number]);
                case 5:
                    return tellLateness(number);
                default:
                    return INVALID_ARGUMENT;
            }
        }

        int tellLateness(int number) {
            if (!isNumber(number) || turn[number] == NONE) {
                return NOT_FOUND;
            }
            for (int t = 0; t < inTurn.length && t < turn[number]; t++) {
                if (inTurn[t] > number) {
                    return 1;
                }
            }
            return 0;
        }

        int lateOnes() {
            int many = 0;
            int greatest = 0;
            for (int t = 0; t < inTurn.length && t < turns; t++) {
                if (inTurn[t] < greatest) {
                    many++;
                }
                greatest = Math.max(greatest, inTurn[t]);
            }
            return many;
        }

        int givenIn(int wanted) {
            return wanted >= 0 && wanted < turns && wanted < inTurn.length ? inTurn[wanted] : NOT_FOUND;
        }

        /** The greatest n for which 1 to n are all given, 0 if there is none. */
        int givenWithoutGap() {
            int n = 0;
            while (n < LAST_NUMBER && state[n + 1] == GIVEN) {
                n++;
            }
            return n;
        }

        int inState(int from, int to, int wanted) {
            int many = 0;
            for (int n = Math.max(from, 1); n <= to && n <= LAST_NUMBER; n++) {
                if (state[n] == wanted) {
                    many++;
                }
            }
            return many;
        }

        int withReason(int from, int to, int wanted) {
            int many = 0;
            for (int n = Math.max(from, 1); n <= to && n <= LAST_NUMBER; n++) {
                if (reason[n] == wanted) {
                    many++;
                }
            }
            return many;
        }

        int holesOf(int clerk) {
            int many = 0;
            for (int n = 1; n <= LAST_NUMBER; n++) {
                if (state[n] == HOLE && owner[n] == clerk) {
                    many++;
                }
            }
            return many;
        }

        int forgottenOf(int clerk) {
            int many = 0;
            for (int n = 1; n <= LAST_NUMBER; n++) {
                if (reason[n] == FORGOTTEN && owner[n] == clerk) {
                    many++;
                }
            }
            return many;
        }
    }

    /** One clerk, who holds the numbers from low to high, and nothing if low is above high. */
    private static final class Clerk {
        int kind = CAREFUL;
        int low = 1;
        int high = 0;
        int mark = 0;
        int given = 0;
        int blocks = 0;
        int latest = NONE;

        void become(Clerk other) {
            kind = other.kind;
            low = other.low;
            high = other.high;
            mark = other.mark;
            given = other.given;
            blocks = other.blocks;
            latest = other.latest;
        }

        void drop() {
            low = 1;
            high = 0;
            mark = 0;
        }

        int held() {
            return high - low + 1;
        }

        /** The last number that would become a hole by forgetting; below low if none would. */
        int lastLost() {
            return Math.min(mark, high);
        }

        int loss() {
            return Math.max(0, lastLost() - low + 1);
        }

        void receive(int first, int last) {
            low = first;
            high = last;
            mark = kind == DREAMY ? last : first - 1;
            blocks++;
        }

        int giveLowest(int lazyStep) {
            int number = low;
            low++;
            given++;
            latest = number;
            if (kind == CAREFUL) {
                mark = number;
            } else if (kind == LAZY && number > mark) {
                mark = Math.min(number + lazyStep - 1, high);
            }
            return number;
        }
    }

    /** All that a change can change: the numbers, the clerks, the settings and the day. */
    private static final class Office {
        static final int[] LEAST = {1, 0, 2};
        static final int[] MOST = {50, 1, 10};

        final Numbers numbers = new Numbers();
        /** Those from clerkCount on are as at first, also when their coming was undone. */
        final Clerk[] clerks = new Clerk[MOST_CLERKS];
        int clerkCount = 0;
        final int[] settings = {10, 1, 4};
        int today = 0;

        Office() {
            for (int i = 0; i < clerks.length; i++) {
                clerks[i] = new Clerk();
            }
        }

        void become(Office other) {
            numbers.become(other.numbers);
            for (int i = 0; i < clerks.length && i < other.clerks.length; i++) {
                clerks[i].become(other.clerks[i]);
            }
            clerkCount = other.clerkCount;
            System.arraycopy(other.settings, 0, settings, 0, settings.length);
            today = other.today;
        }

        boolean isClerk(int clerk) {
            return clerk >= 0 && clerk < clerkCount && clerk < clerks.length;
        }

        int addClerk(int kind) {
            if (kind < CAREFUL || kind > DREAMY) {
                return INVALID_ARGUMENT;
            }
            if (clerkCount < 0 || clerkCount >= clerks.length) {
                return LIMIT_REACHED;
            }
            clerks[clerkCount].kind = kind;
            clerkCount++;
            return clerkCount - 1;
        }

        int serve(int clerk, int many) {
            if (!isClerk(clerk) || many < 1 || many > MOST_ASKED) {
                return INVALID_ARGUMENT;
            }
            if (available(clerk) < many) {
                return LIMIT_REACHED;
            }
            int number = NONE;
            for (int i = 0; i < many; i++) {
                if (clerks[clerk].held() <= 0) {
                    handOut(clerk);
                }
                number = clerks[clerk].giveLowest(settings[LAZY_STEP]);
                numbers.give(number, clerk, today);
            }
            return number;
        }

        int available(int clerk) {
            if (!isClerk(clerk)) {
                return 0;
            }
            int free = settings[FREE_AGAIN] == 1 ? numbers.inState(1, LAST_NUMBER, FREE) : 0;
            return clerks[clerk].held() + numbers.inState(1, LAST_NUMBER, NEW) + free;
        }

        /** The first number of the next block, above the last number if there is none. */
        int startOfBlock() {
            int free = settings[FREE_AGAIN] == 1 ? numbers.lowestFree() : NONE;
            return free == NONE ? numbers.firstNew : free;
        }

        void handOut(int clerk) {
            int first = startOfBlock();
            if (!isClerk(clerk) || !Numbers.isNumber(first)) {
                return;
            }
            int last = numbers.lastOfRow(first, first + settings[BLOCK_LENGTH] - 1);
            numbers.put(first, last, HELD, clerk, NONE);
            clerks[clerk].receive(first, last);
        }

        int letForget(int clerk) {
            if (!isClerk(clerk)) {
                return INVALID_ARGUMENT;
            }
            Clerk one = clerks[clerk];
            if (one.held() <= 0) {
                return NOT_POSSIBLE;
            }
            int many = one.loss();
            if (many > 0) {
                numbers.put(one.low, one.lastLost(), HOLE, clerk, FORGOTTEN);
                one.low += many;
            }
            return many;
        }

        int takeBack(int clerk) {
            if (!isClerk(clerk)) {
                return INVALID_ARGUMENT;
            }
            Clerk one = clerks[clerk];
            int many = one.held();
            if (many <= 0) {
                return NOT_POSSIBLE;
            }
            if (settings[FREE_AGAIN] == 1) {
                numbers.put(one.low, one.high, FREE, NONE, NONE);
            } else {
                numbers.put(one.low, one.high, HOLE, clerk, GIVEN_BACK);
            }
            one.drop();
            return many;
        }

        int cancel(int number) {
            if (!Numbers.isNumber(number)) {
                return INVALID_ARGUMENT;
            }
            if (numbers.state[number] != GIVEN) {
                return NOT_POSSIBLE;
            }
            numbers.put(number, number, HOLE, numbers.owner[number], VOID);
            return numbers.owner[number];
        }

        int endDay() {
            int many = numbers.closeAll();
            for (int i = 0; i < clerks.length; i++) {
                clerks[i].drop();
            }
            today++;
            return many;
        }

        int change(int what, int value) {
            if (what < 0 || what >= SETTINGS || value < LEAST[what] || value > MOST[what]) {
                return INVALID_ARGUMENT;
            }
            int before = settings[what];
            settings[what] = value;
            return before;
        }

        int tellOfClerk(int clerk, int what) {
            if (!isClerk(clerk)) {
                return INVALID_ARGUMENT;
            }
            Clerk one = clerks[clerk];
            boolean holds = one.held() > 0;
            switch (what) {
                case 0:
                    return one.kind;
                case 1:
                    return one.held();
                case 2:
                    return holds ? one.low : NOT_FOUND;
                case 3:
                    return holds ? one.high : NOT_FOUND;
                case 4:
                    return holds ? one.mark : NOT_FOUND;
                case 5:
                    return one.given;
                case 6:
                    return numbers.holesOf(clerk);
                case 7:
                    return numbers.forgottenOf(clerk);
                case 8:
                    return one.blocks;
                case 9:
                    return orNotFound(one.latest);
                default:
                    return INVALID_ARGUMENT;
            }
        }

        int tally(int what) {
            switch (what) {
                case 0:
                    return clerkCount;
                case 1:
                    return today;
                case 2:
                    return numbers.turns;
                case 3:
                    return numbers.inState(1, LAST_NUMBER, HELD);
                case 4:
                    return numbers.inState(1, LAST_NUMBER, FREE);
                case 5:
                    return numbers.inState(1, LAST_NUMBER, HOLE);
                case 6:
                    return numbers.firstNew;
                case 7:
                    return numbers.lateOnes();
                case 8:
                    return numbers.givenWithoutGap();
                case 9:
                    return numbers.rows(HOLE);
                default:
                    return settingAt(what);
            }
        }

        int settingAt(int what) {
            boolean isSetting = what >= SETTINGS_FROM && what < SETTINGS_FROM + SETTINGS;
            return isSetting ? settings[what - SETTINGS_FROM] : INVALID_ARGUMENT;
        }

        int upcoming(int clerk) {
            if (!isClerk(clerk)) {
                return INVALID_ARGUMENT;
            }
            int number = clerks[clerk].held() > 0 ? clerks[clerk].low : startOfBlock();
            return Numbers.isNumber(number) ? number : LIMIT_REACHED;
        }

        int lossOf(int clerk) {
            return isClerk(clerk) ? clerks[clerk].loss() : 0;
        }

        int mostForgetful() {
            int worstClerk = NOT_FOUND;
            int most = 0;
            for (int i = 0; i < clerks.length && i < clerkCount; i++) {
                if (clerks[i].loss() > most) {
                    most = clerks[i].loss();
                    worstClerk = i;
                }
            }
            return worstClerk;
        }
    }

    /** The text, and what was read of it: the latest command and the place behind it. */
    private static final class Script {
        final char[] signs = new char[MOST_SIGNS];
        int length = 0;
        int at = 0;
        int verb = NONE;
        int first = NONE;
        int second = NONE;

        int append(int character) {
            if (character < 32 || character > 126) {
                return INVALID_ARGUMENT;
            }
            if (length < 0 || length >= signs.length) {
                return LIMIT_REACHED;
            }
            signs[length] = (char) character;
            length++;
            return length;
        }

        void rewind() {
            at = 0;
        }

        /** Reads a command with its ";"; tells whether it is of the form. */
        boolean readCommand() {
            first = 0;
            second = 0;
            if (takeWord("clerk ")) {
                verb = ADD_CLERK;
                first = takeKind();
            } else if (takeWord("ask ")) {
                verb = ASK_CLERK;
                first = takeNumber();
                second = takeWord(" ") ? takeNumber() : NONE;
            } else if (takeWord("forget ")) {
                verb = LET_FORGET;
                first = takeNumber();
            } else if (takeWord("back ")) {
                verb = TAKE_BACK;
                first = takeNumber();
            } else if (takeWord("void ")) {
                verb = VOID_NUMBER;
                first = takeNumber();
            } else if (takeWord("close")) {
                verb = CLOSE_DAY;
            } else {
                return false;
            }
            return first != NONE && second != NONE && takeWord(";");
        }

        /** Moves behind the word if the text goes on with it. */
        boolean takeWord(String word) {
            for (int i = 0; i < word.length(); i++) {
                if (signAt(at + i) != word.charAt(i)) {
                    return false;
                }
            }
            at += word.length();
            return true;
        }

        int takeKind() {
            if (takeWord("careful")) {
                return CAREFUL;
            }
            if (takeWord("lazy")) {
                return LAZY;
            }
            return takeWord("dreamy") ? DREAMY : NONE;
        }

        /** Reads a number of one to three digits; a fourth one is left, and no command goes on with it. */
        int takeNumber() {
            int value = NONE;
            for (int i = 0; i < 3 && isDigit(signAt(at)); i++) {
                value = Math.max(value, 0) * 10 + (signAt(at) - '0');
                at++;
            }
            return value;
        }

        static boolean isDigit(int sign) {
            return sign >= '0' && sign <= '9';
        }

        int signAt(int place) {
            return place >= 0 && place < length && place < signs.length ? signs[place] : NONE;
        }
    }

    private static int orNotFound(int value) {
        return value < 0 ? NOT_FOUND : value;
    }
}
