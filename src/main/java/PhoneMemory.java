import java.util.Arrays;

/** The memory of a phone. ../shared/DOC.md says what each call promises. */
public final class PhoneMemory {
    public static final int NONE = -1;

    private static final int MOST_BYTES = 700;
    private static final int BYTES_APPENDED = 20;
    private static final int MOST_PROGRAMS = 10;
    private static final int MOST_CHANGES = 10;
    private static final int SLOTS = 2;

    private static final int CLOSED = 0;
    private static final int SHOWN = 1;
    private static final int RESTING = 2;
    private static final int FROZEN = 3;
    private static final int ZIPPED = 4;
    private static final int SAVED = 5;

    private static final int BY_PROMISE = 0;
    private static final int BY_SIZE = 1;
    private static final int BY_RECENT = 2;

    private static final int DROP_CACHE = 1;
    private static final int ZIP = 2;
    private static final int FREEZE = 3;
    private static final int SAVE = 4;
    private static final int CLOSE = 5;
    private static final int DROP_SHOWN_CACHE = 6;
    private static final int KINDS_OF_STEPS = 6;
    private static final int CAME_TO_BE_SHOWN = 7;
    private static final int COMPLAINT = 8;
    private static final int REFUSED_PAGE = 9;
    private static final int KINDS_OF_ENTRIES = 9;

    private static final int LEAST_LIMIT = 50;
    private static final int MOST_LIMIT = 2000;
    private static final int MOST_MINUTES = 240;
    private static final int MOST_NOTICE = 999;
    private static final int PARTS_OF_ENTRY = 3;

    private final Reader reader;
    private int errorAt = NONE;
    private Description description;
    private Description draft;
    private final Trims trims;
    private Phone now;
    private Phone trial;
    private Phone spare;
    private final History history;
    private final Phone[] slots;
    private final boolean[] slotIsFull;

    public PhoneMemory() {
        reader = new Reader();
        description = new Description();
        draft = new Description();
        trims = new Trims();
        now = new Phone(trims, description);
        trial = new Phone(trims, description);
        spare = new Phone(trims, description);
        history = new History(trims, description);
        slots = new Phone[SLOTS];
        slotIsFull = new boolean[SLOTS];
        for (int slot = 0; slot < SLOTS; slot++) {
            slots[slot] = new Phone(trims, description);
        }
    }

    // ---- text

    public int append(int a, int b, int c, int d, int e) {
        if (reader.filled > MOST_BYTES - BYTES_APPENDED) {
            return NONE;
        }
        reader.putFourBytes(a);
        reader.putFourBytes(b);
        reader.putFourBytes(c);
        reader.putFourBytes(d);
        reader.putFourBytes(e);
        return reader.filled;
    }

    public int parse(int length) throws IllegalArgumentException {
        if (length < 0 || length > reader.filled) {
            throw new IllegalArgumentException("no such length");
        }
        int code = reader.readPhone(length, draft);
        reader.filled = 0;
        errorAt = reader.codeAt;
        if (code == 0) {
            useDraft();
        }
        return code;
    }

    private void useDraft() {
        Description old = description;
        description = draft;
        draft = old;
        now.begin(description);
        history.clear();
        for (int slot = 0; slot < SLOTS; slot++) {
            slotIsFull[slot] = false;
        }
    }

    public int errorPosition() {
        return errorAt;
    }

    public int size(int what) throws IllegalArgumentException {
        switch (what) {
            case 0:
                return description.count;
            case 1:
                return now.room.limit;
            case 2:
                return now.room.usedByAll();
            case 3:
                return now.minute;
            case 4:
                return now.shown;
            case 5:
                return now.habits.last;
            case 6:
                return now.policy;
            case 7:
                return now.complaintsOfAll();
            case 8:
                return history.count;
            default:
                throw new IllegalArgumentException("no such count");
        }
    }

    public int find() {
        int program = description.withName(reader.wordBeforeSpaces());
        reader.filled = 0;
        return program;
    }

    // ---- programs

    private void checkProgram(int program) {
        if (program < 0 || program >= description.count) {
            throw new IndexOutOfBoundsException("no such program");
        }
    }

    public int program(int program, int what) throws IndexOutOfBoundsException, IllegalArgumentException {
        checkProgram(program);
        switch (what) {
            case 0:
                return now.room.state[program];
            case 1:
                return now.room.pages[program];
            case 2:
                return now.room.cache[program];
            case 3:
                return now.room.usedBy(program);
            case 4:
                return now.complaints[program];
            case 5:
                return now.noticesWaiting[program];
            case 6:
                return now.room.pinned[program] ? 1 : 0;
            case 7:
                return now.isPrecious(program) ? 1 : 0;
            default:
                throw new IllegalArgumentException("no such property");
        }
    }

    public int told(int program, int what) throws IndexOutOfBoundsException, IllegalArgumentException {
        checkProgram(program);
        if (what < 0 || what >= Description.NUMBERS) {
            throw new IllegalArgumentException("no such number");
        }
        return description.numbers[program][what];
    }

    public int picture(int program) throws IndexOutOfBoundsException {
        checkProgram(program);
        return now.pictures[program];
    }

    public int notice(int program, int k) throws IndexOutOfBoundsException {
        checkProgram(program);
        return now.waitingNotice(program, k);
    }

    // ---- habits

    public int habit(int program) throws IndexOutOfBoundsException {
        checkProgram(program);
        return now.habits.habitOf(program);
    }

    public int promise(int program) throws IndexOutOfBoundsException {
        checkProgram(program);
        return now.habits.promiseOf(program, now.shown, now.minute);
    }

    public int followed(int first, int following) throws IndexOutOfBoundsException {
        checkProgram(first);
        checkProgram(following);
        return now.habits.timesFollowed(first, following);
    }

    public int likeliest(int program) throws IndexOutOfBoundsException {
        checkProgram(program);
        return now.habits.likeliestAfter(program);
    }

    // ---- trims and waits

    private static void checkStep(int kind) {
        if (kind < 1 || kind > KINDS_OF_STEPS) {
            throw new IllegalArgumentException("no such kind of step");
        }
    }

    public int victim(int kind) throws IllegalArgumentException {
        checkStep(kind);
        now.prepareTrims();
        return trims.victimOf(kind);
    }

    public int freed(int kind) throws IllegalArgumentException {
        checkStep(kind);
        now.prepareTrims();
        int program = trims.victimOf(kind);
        return program == NONE ? 0 : trims.tryStep(kind, program);
    }

    public int waitOf(int program) throws IndexOutOfBoundsException {
        checkProgram(program);
        return now.waitFor(program);
    }

    public int whyNotShow(int program) throws IndexOutOfBoundsException {
        checkProgram(program);
        if (triedShowing(program)) {
            return 0;
        }
        return now.room.pagesWhenShown(program) > now.room.limit ? 1 : 2;
    }

    public int trimsFor(int program) throws IndexOutOfBoundsException {
        checkProgram(program);
        return triedShowing(program) ? trial.journal.steps() - now.journal.steps() : NONE;
    }

    public int stateAfter(int shown, int program) throws IndexOutOfBoundsException {
        checkProgram(shown);
        checkProgram(program);
        return triedShowing(shown) ? trial.room.state[program] : NONE;
    }

    public int waitsFor(int policy, int first, int second, int third)
            throws IndexOutOfBoundsException, IllegalArgumentException {
        checkProgram(first);
        checkProgram(second);
        checkProgram(third);
        checkPolicy(policy);
        spare.copyFrom(now);
        spare.policy = policy;
        return waitInSpare(first) + waitInSpare(second) + waitInSpare(third);
    }

    /** A refused showing leaves its traces in trial only, so the next one finds spare as it was. */
    private int waitInSpare(int program) {
        int wait = spare.waitFor(program);
        trial.copyFrom(spare);
        if (!trial.bringUp(program)) {
            return 0;
        }
        Phone after = trial;
        trial = spare;
        spare = after;
        return wait;
    }

    private boolean triedShowing(int program) {
        trial.copyFrom(now);
        return trial.bringUp(program);
    }

    public int log(int k, int part) throws IllegalArgumentException {
        if (part < 0 || part >= PARTS_OF_ENTRY) {
            throw new IllegalArgumentException("no such part");
        }
        return now.journal.partOf(k, part);
    }

    public int account(int kind) throws IllegalArgumentException {
        if (kind < 1 || kind > KINDS_OF_ENTRIES) {
            throw new IllegalArgumentException("no such kind");
        }
        return now.journal.counts[kind];
    }

    // ---- changes: each is made to trial, which takes the place of now if nothing is refused

    private void acceptTrial() {
        Phone unused = history.keep(now);
        now = trial;
        trial = unused;
    }

    public int show(int program) throws IndexOutOfBoundsException, IllegalStateException {
        checkProgram(program);
        int wait = now.waitFor(program);
        if (!triedShowing(program)) {
            throw new IllegalStateException("not enough memory");
        }
        acceptTrial();
        return wait;
    }

    public int home() {
        int program = now.shown;
        trial.copyFrom(now);
        trial.letShownRest();
        acceptTrial();
        return program;
    }

    public int pass(int minutes) throws IllegalArgumentException {
        if (minutes < 1 || minutes > MOST_MINUTES) {
            throw new IllegalArgumentException("no such number of minutes");
        }
        int before = now.journal.steps();
        trial.copyFrom(now);
        for (int passed = 0; passed < minutes; passed++) {
            trial.passMinute();
        }
        acceptTrial();
        return now.journal.steps() - before;
    }

    private static void checkNotice(int number) {
        if (number < 0 || number > MOST_NOTICE) {
            throw new IllegalArgumentException("no such notice");
        }
    }

    public int touch(int number) throws IllegalArgumentException, IllegalStateException {
        checkNotice(number);
        int program = now.shown;
        if (program < 0) {
            throw new IllegalStateException("no program is shown");
        }
        trial.copyFrom(now);
        trial.takeIn(program, number);
        acceptTrial();
        return now.pictures[program];
    }

    public int send(int program, int notice) throws IndexOutOfBoundsException, IllegalArgumentException {
        checkProgram(program);
        checkNotice(notice);
        trial.copyFrom(now);
        trial.deliver(program, notice);
        acceptTrial();
        return now.noticesWaiting[program];
    }

    public int read() throws IllegalStateException {
        int program = now.shown;
        if (program < 0) {
            throw new IllegalStateException("no program is shown");
        }
        if (now.noticesWaiting[program] < 1) {
            throw new IllegalStateException("no notice waits");
        }
        trial.copyFrom(now);
        trial.takeInFirst(program);
        acceptTrial();
        return now.pictures[program];
    }

    public boolean pin(int program, boolean pinned) throws IndexOutOfBoundsException {
        checkProgram(program);
        boolean before = now.room.pinned[program];
        trial.copyFrom(now);
        trial.room.pinned[program] = pinned;
        acceptTrial();
        return before;
    }

    public int trim(int kind) throws IllegalArgumentException, IllegalStateException {
        checkStep(kind);
        now.prepareTrims();
        int program = trims.victimOf(kind);
        if (program == NONE) {
            throw new IllegalStateException("no program can have the step");
        }
        trial.copyFrom(now);
        trial.doStep(kind, program);
        if (trial.room.isOverLimit()) {
            throw new IllegalStateException("not enough memory");
        }
        acceptTrial();
        return program;
    }

    public int close(int program) throws IndexOutOfBoundsException, IllegalStateException {
        checkProgram(program);
        if (now.room.state[program] == CLOSED) {
            throw new IllegalStateException("it is closed");
        }
        int less = now.room.usedBy(program);
        trial.copyFrom(now);
        trial.shut(program);
        acceptTrial();
        return less;
    }

    public int setLimit(int limit) throws IllegalArgumentException, IllegalStateException {
        if (limit < LEAST_LIMIT || limit > MOST_LIMIT) {
            throw new IllegalArgumentException("no such limit");
        }
        int before = now.journal.steps();
        trial.copyFrom(now);
        trial.room.limit = limit;
        if (!trial.makeMemory()) {
            throw new IllegalStateException("not enough memory");
        }
        acceptTrial();
        return now.journal.steps() - before;
    }

    private static void checkPolicy(int policy) {
        if (policy < BY_PROMISE || policy > BY_RECENT) {
            throw new IllegalArgumentException("no such policy");
        }
    }

    public int setPolicy(int policy) throws IllegalArgumentException {
        checkPolicy(policy);
        int before = now.policy;
        trial.copyFrom(now);
        trial.policy = policy;
        acceptTrial();
        return before;
    }

    // ---- undo and snapshots

    public int undo() {
        if (history.count < 1) {
            return NONE;
        }
        now = history.takeBack(now);
        return history.count;
    }

    private static void checkSlot(int slot) {
        if (slot < 0 || slot >= SLOTS) {
            throw new IndexOutOfBoundsException("no such slot");
        }
    }

    public boolean saveSnapshot(int slot) throws IndexOutOfBoundsException {
        checkSlot(slot);
        boolean before = slotIsFull[slot];
        slots[slot].copyFrom(now);
        slotIsFull[slot] = true;
        return before;
    }

    public int restoreSnapshot(int slot) throws IndexOutOfBoundsException, IllegalStateException {
        checkSlot(slot);
        if (!slotIsFull[slot]) {
            throw new IllegalStateException("the slot is empty");
        }
        now.copyFrom(slots[slot]);
        history.clear();
        return now.minute;
    }

    /** What a text tells: the programs and the settings at the beginning. */
    private static final class Description {
        static final int BASE = 0;
        static final int CACHE = 1;
        static final int GROW = 2;
        static final int MOST = 3;
        static final int RATIO = 4;
        static final int SCREEN = 5;
        static final int PATIENCE = 6;
        static final int EVERY = 7;
        static final int NUMBERS = 8;

        int limit;
        int policy;
        int newCost;
        int zipCost;
        int savedCost;
        int warmCost;
        int count;
        final long[] names = new long[MOST_PROGRAMS];
        final int[][] numbers = new int[MOST_PROGRAMS][NUMBERS];

        Description() {
            begin();
        }

        void begin() {
            limit = 100;
            policy = BY_PROMISE;
            newCost = 10;
            zipCost = 2;
            savedCost = 5;
            warmCost = 20;
            count = 0;
        }

        int withName(long name) {
            for (int p = 0; p < count; p++) {
                if (names[p] == name) {
                    return p;
                }
            }
            return NONE;
        }
    }

    /** The input buffer. Reading stops at the first error, as that one has the smallest position. */
    private static final class Reader {
        private static final int END = 0;
        private static final int WORD = 1;
        private static final int NUMBER = 2;
        private static final int SEMICOLON = 3;
        private static final int INVALID = 4;

        private static final int WRONG_TOKEN = 1;
        private static final int TWICE = 2;
        private static final int OUT_OF_RANGE = 3;
        private static final int NO_EARLIER_PROGRAM = 4;
        private static final int TOO_MANY_PROGRAMS = 5;

        private static final int NOT_A_WORD = 0;
        private static final int MOST_LETTERS = 8;
        private static final int MOST_DIGITS = 4;

        private final byte[] text = new byte[MOST_BYTES];
        int filled = 0;
        private int length;
        private int next;
        private int token;
        private int tokenAt;
        private long word;
        private int number;
        private int code;
        int codeAt;
        private boolean costsCame;
        private boolean policyCame;

        void putFourBytes(int four) {
            for (int shift = 24; shift >= 0 && filled < MOST_BYTES; shift -= 8) {
                text[filled] = (byte) (four >>> shift);
                filled++;
            }
        }

        long wordBeforeSpaces() {
            int end = filled;
            while (end > 0 && text[end - 1] == ' ') {
                end--;
            }
            return wordBetween(0, end);
        }

        /** The code of the error, 0 if there is none. */
        int readPhone(int textLength, Description into) {
            length = Math.min(textLength, filled);
            next = 0;
            code = 0;
            codeAt = NONE;
            costsCame = false;
            policyCame = false;
            into.begin();
            step();
            if (!isWord("phone")) {
                fail(WRONG_TOKEN);
            }
            into.limit = takeNumber(LEAST_LIMIT, MOST_LIMIT);
            take(SEMICOLON);
            step();
            // A statement has a byte at least, so there are no more statements than bytes.
            for (int statement = 0; statement < length && code == 0 && token != END; statement++) {
                if (isWord("program")) {
                    readProgram(into);
                } else if (isWord("work")) {
                    readWork(into);
                } else if (isWord("costs")) {
                    readCosts(into);
                } else if (isWord("policy")) {
                    readPolicy(into);
                } else {
                    fail(WRONG_TOKEN);
                }
                take(SEMICOLON);
                step();
            }
            return code;
        }

        private void readProgram(Description into) {
            int program = into.count;
            if (program >= MOST_PROGRAMS) {
                fail(TOO_MANY_PROGRAMS);
                return;
            }
            take(WORD);
            if (into.withName(word) != NONE) {
                fail(TWICE);
            }
            into.names[program] = word;
            int[] told = into.numbers[program];
            told[Description.BASE] = takeNumber(1, 400);
            told[Description.CACHE] = takeNumber(0, 200);
            told[Description.GROW] = takeNumber(0, 20);
            told[Description.MOST] = takeNumber(told[Description.BASE], 999);
            told[Description.RATIO] = takeNumber(10, 100);
            told[Description.SCREEN] = takeNumber(1, told[Description.BASE]);
            told[Description.PATIENCE] = takeNumber(0, 9999);
            told[Description.EVERY] = 0;
            into.count = program + 1;
        }

        private void readWork(Description into) {
            take(WORD);
            int program = into.withName(word);
            if (program == NONE) {
                fail(NO_EARLIER_PROGRAM);
                return;
            }
            if (into.numbers[program][Description.EVERY] != 0) {
                fail(TWICE);
            }
            into.numbers[program][Description.EVERY] = takeNumber(1, 60);
        }

        private void readCosts(Description into) {
            if (costsCame) {
                fail(TWICE);
            }
            costsCame = true;
            into.newCost = takeNumber(0, 99);
            into.zipCost = takeNumber(0, 99);
            into.savedCost = takeNumber(0, 99);
            into.warmCost = takeNumber(0, 99);
        }

        private void readPolicy(Description into) {
            if (policyCame) {
                fail(TWICE);
            }
            policyCame = true;
            take(WORD);
            if (isWord("promise")) {
                into.policy = BY_PROMISE;
            } else if (isWord("size")) {
                into.policy = BY_SIZE;
            } else if (isWord("recent")) {
                into.policy = BY_RECENT;
            } else {
                fail(WRONG_TOKEN);
            }
        }

        /** Only the first error counts; behind it no token is taken any more. */
        private void fail(int newCode) {
            if (code == 0) {
                code = newCode;
                codeAt = tokenAt;
            }
        }

        private void take(int wanted) {
            step();
            if (token != wanted) {
                fail(WRONG_TOKEN);
            }
        }

        private int takeNumber(int least, int most) {
            step();
            if (token != NUMBER) {
                fail(WRONG_TOKEN);
            } else if (number < least || number > most) {
                fail(OUT_OF_RANGE);
            }
            return number;
        }

        private boolean isWord(String wanted) {
            return token == WORD && word == packed(wanted);
        }

        private void step() {
            if (code != 0) {
                return;
            }
            while (next < length && (text[next] == ' ' || text[next] == '\n')) {
                next++;
            }
            tokenAt = next;
            word = NOT_A_WORD;
            number = 0;
            if (next >= length) {
                token = END;
            } else if (isLetter(text[next])) {
                stepOverLetters();
                word = wordBetween(tokenAt, next);
                token = word == NOT_A_WORD ? INVALID : WORD;
            } else if (isDigit(text[next])) {
                stepOverNumber();
            } else {
                token = text[next] == ';' ? SEMICOLON : INVALID;
                next++;
            }
        }

        private void stepOverLetters() {
            while (next < length && isLetter(text[next])) {
                next++;
            }
        }

        private void stepOverNumber() {
            while (next < length && isDigit(text[next])) {
                number = 10 * number + (text[next] - '0');
                next++;
            }
            token = next - tokenAt > MOST_DIGITS ? INVALID : NUMBER;
        }

        /** The bytes as one number that tells words apart; NOT_A_WORD if they are none. */
        private long wordBetween(int from, int to) {
            if (from < 0 || to > filled || to - from > MOST_LETTERS) {
                return NOT_A_WORD;
            }
            long letters = NOT_A_WORD;
            for (int i = from; i < to; i++) {
                if (!isLetter(text[i])) {
                    return NOT_A_WORD;
                }
                letters = 32 * letters + (text[i] - 'a' + 1);
            }
            return letters;
        }

        private static long packed(String letters) {
            long result = NOT_A_WORD;
            for (int i = 0; i < letters.length(); i++) {
                result = 32 * result + (letters.charAt(i) - 'a' + 1);
            }
            return result;
        }

        private static boolean isLetter(int c) {
            return c >= 'a' && c <= 'z';
        }

        private static boolean isDigit(int c) {
            return c >= '0' && c <= '9';
        }
    }

    /** What state each program has, and what it uses of the memory. */
    private static final class Room {
        private Description description;
        int limit;
        final int[] state = new int[MOST_PROGRAMS];
        final int[] pages = new int[MOST_PROGRAMS];
        final int[] cache = new int[MOST_PROGRAMS];
        final boolean[] pinned = new boolean[MOST_PROGRAMS];

        Room(Description told) {
            begin(told);
        }

        void begin(Description told) {
            description = told;
            limit = told.limit;
            Arrays.fill(state, CLOSED);
            Arrays.fill(pages, 0);
            Arrays.fill(cache, 0);
            for (int p = 0; p < MOST_PROGRAMS; p++) {
                pinned[p] = false;
            }
        }

        void copyFrom(Room other) {
            description = other.description;
            limit = other.limit;
            System.arraycopy(other.state, 0, state, 0, MOST_PROGRAMS);
            System.arraycopy(other.pages, 0, pages, 0, MOST_PROGRAMS);
            System.arraycopy(other.cache, 0, cache, 0, MOST_PROGRAMS);
            for (int p = 0; p < MOST_PROGRAMS; p++) {
                pinned[p] = other.pinned[p];
            }
        }

        int count() {
            return description.count;
        }

        int usedBy(int p) {
            switch (state[p]) {
                case SHOWN:
                case RESTING:
                case FROZEN:
                    return pages[p] + cache[p];
                case ZIPPED:
                    return (pages[p] * description.numbers[p][Description.RATIO] + 99) / 100;
                case SAVED:
                    return description.numbers[p][Description.SCREEN];
                default:
                    return 0;
            }
        }

        int usedByAll() {
            int used = 0;
            for (int p = 0; p < description.count; p++) {
                used += usedBy(p);
            }
            return used;
        }

        boolean isOverLimit() {
            return usedByAll() > limit;
        }

        private boolean hasPages(int p) {
            return state[p] != CLOSED && state[p] != SAVED;
        }

        int pagesWhenShown(int p) {
            return hasPages(p) ? pages[p] : description.numbers[p][Description.BASE];
        }

        void bringUp(int p) {
            if (!hasPages(p)) {
                pages[p] = description.numbers[p][Description.BASE];
                cache[p] = description.numbers[p][Description.CACHE];
            }
            state[p] = SHOWN;
        }

        boolean canHave(int kind, int p) {
            switch (kind) {
                case DROP_CACHE:
                    return (state[p] == RESTING || state[p] == FROZEN) && cache[p] > 0;
                case ZIP:
                    return state[p] == FROZEN && !pinned[p];
                case FREEZE:
                    return state[p] == RESTING && !pinned[p];
                case SAVE:
                    return state[p] == ZIPPED && !pinned[p];
                case CLOSE:
                    return state[p] == SAVED && !pinned[p];
                case DROP_SHOWN_CACHE:
                    return state[p] == SHOWN && cache[p] > 0;
                default:
                    return false;
            }
        }

        void doStep(int kind, int p) {
            switch (kind) {
                case DROP_CACHE:
                case DROP_SHOWN_CACHE:
                    cache[p] = 0;
                    break;
                case ZIP:
                    cache[p] = 0;
                    state[p] = ZIPPED;
                    break;
                case FREEZE:
                    state[p] = FROZEN;
                    break;
                case SAVE:
                    pages[p] = 0;
                    state[p] = SAVED;
                    break;
                case CLOSE:
                    state[p] = CLOSED;
                    break;
                default:
                    break;
            }
        }

        void empty(int p) {
            pages[p] = 0;
            cache[p] = 0;
            state[p] = CLOSED;
        }
    }

    /** When programs were shown, and which followed which. */
    private static final class Habits {
        private static final int MOST_GAPS = 4;
        private static final int WITHOUT_GAPS = 600;
        private static final int NEVER_SHOWN = 600;

        private int count;
        int last;
        /** The minute at which the latest time in which a program was shown ended; NONE if none did. */
        final int[] shownUntil = new int[MOST_PROGRAMS];
        private final int[] gapsKept = new int[MOST_PROGRAMS];
        private final int[] gaps = new int[MOST_PROGRAMS * MOST_GAPS];
        private final int[] followings = new int[MOST_PROGRAMS * MOST_PROGRAMS];

        void begin(Description told) {
            count = told.count;
            last = NONE;
            Arrays.fill(shownUntil, NONE);
            Arrays.fill(gapsKept, 0);
            Arrays.fill(followings, 0);
        }

        void copyFrom(Habits other) {
            count = other.count;
            last = other.last;
            System.arraycopy(other.shownUntil, 0, shownUntil, 0, shownUntil.length);
            System.arraycopy(other.gapsKept, 0, gapsKept, 0, gapsKept.length);
            System.arraycopy(other.gaps, 0, gaps, 0, gaps.length);
            System.arraycopy(other.followings, 0, followings, 0, followings.length);
        }

        int habitOf(int p) {
            int kept = gapsKept[p];
            if (kept < 1) {
                return WITHOUT_GAPS;
            }
            int sum = 0;
            for (int i = 0; i < kept && i < MOST_GAPS; i++) {
                sum += gaps[p * MOST_GAPS + i];
            }
            return sum / kept;
        }

        int promiseOf(int p, int shown, int minute) {
            if (p == shown || oftenFollowsLast(p)) {
                return 0;
            }
            if (shownUntil[p] == NONE) {
                return NEVER_SHOWN;
            }
            return Math.max(0, habitOf(p) - (minute - shownUntil[p]));
        }

        private boolean oftenFollowsLast(int p) {
            if (last < 0) {
                return false;
            }
            int first = last * MOST_PROGRAMS;
            int all = 0;
            for (int q = 0; q < count; q++) {
                all += followings[first + q];
            }
            int times = followings[first + p];
            return times > 0 && 2 * times >= all;
        }

        int timesFollowed(int first, int following) {
            return followings[first * MOST_PROGRAMS + following];
        }

        int likeliestAfter(int first) {
            int best = NONE;
            int most = 0;
            for (int q = 0; q < count; q++) {
                if (timesFollowed(first, q) > most) {
                    most = timesFollowed(first, q);
                    best = q;
                }
            }
            return best;
        }

        void countShowing(int p, int before, int minute) {
            if (shownUntil[p] != NONE) {
                addGap(p, minute - shownUntil[p]);
            }
            if (before >= 0 && before != p) {
                followings[before * MOST_PROGRAMS + p]++;
            }
        }

        private void addGap(int p, int gap) {
            int first = p * MOST_GAPS;
            if (gapsKept[p] < MOST_GAPS) {
                gaps[first + gapsKept[p]] = gap;
                gapsKept[p]++;
                return;
            }
            System.arraycopy(gaps, first + 1, gaps, first, MOST_GAPS - 1);
            gaps[first + MOST_GAPS - 1] = gap;
        }
    }

    /** The log, and how many entries of each kind came to it. */
    private static final class Journal {
        private static final int MOST_ENTRIES = 24;

        private int kept = 0;
        private int next = 0;
        private final int[] parts = new int[MOST_ENTRIES * PARTS_OF_ENTRY];
        final int[] counts = new int[KINDS_OF_ENTRIES + 1];

        void begin() {
            kept = 0;
            next = 0;
            Arrays.fill(counts, 0);
        }

        void copyFrom(Journal other) {
            kept = other.kept;
            next = other.next;
            System.arraycopy(other.parts, 0, parts, 0, parts.length);
            System.arraycopy(other.counts, 0, counts, 0, counts.length);
        }

        void add(int kind, int program, int minute) {
            int first = next * PARTS_OF_ENTRY;
            parts[first] = kind;
            parts[first + 1] = program;
            parts[first + 2] = minute;
            next = (next + 1) % MOST_ENTRIES;
            kept = Math.min(kept + 1, MOST_ENTRIES);
            counts[kind]++;
        }

        int partOf(int k, int part) {
            if (k < 0 || k >= kept) {
                return NONE;
            }
            int entry = (next - 1 - k + MOST_ENTRIES) % MOST_ENTRIES;
            return parts[entry * PARTS_OF_ENTRY + part];
        }

        int steps() {
            int sum = 0;
            for (int kind = 1; kind <= KINDS_OF_STEPS; kind++) {
                sum += counts[kind];
            }
            return sum;
        }
    }

    /** Finds out which steps are due, on a room of its own, so that what is refused leaves no trace. */
    private static final class Trims {
        /** A program can have five steps at most until it is closed, the shown one one. */
        private static final int MOST_STEPS = 5 * MOST_PROGRAMS;

        final Room room = new Room(new Description());
        final int[] ranks = new int[MOST_PROGRAMS];
        final boolean[] precious = new boolean[MOST_PROGRAMS];
        boolean ranksAreSizes = false;
        int steps = 0;
        final int[] kinds = new int[MOST_STEPS];
        final int[] programs = new int[MOST_STEPS];

        int victimOf(int kind) {
            int first = NONE;
            for (int p = 0; p < room.count(); p++) {
                if (room.canHave(kind, p) && (first < 0 || comesBefore(p, first, kind))) {
                    first = p;
                }
            }
            return first;
        }

        private boolean comesBefore(int p, int other, int kind) {
            if ((kind == SAVE || kind == CLOSE) && precious[p] != precious[other]) {
                return precious[other];
            }
            return ranks[p] > ranks[other];
        }

        /** The number of pages less that are used behind the step. */
        int tryStep(int kind, int p) {
            int before = room.usedBy(p);
            room.doStep(kind, p);
            if (ranksAreSizes) {
                ranks[p] = room.usedBy(p);
            }
            return before - room.usedBy(p);
        }

        /** Whether there are steps enough; they stand in kinds and programs then. */
        boolean findSteps() {
            int used = room.usedByAll();
            for (steps = 0; steps < MOST_STEPS && used > room.limit; steps++) {
                int kind = 1;
                int program = victimOf(kind);
                while (program == NONE && kind < KINDS_OF_STEPS) {
                    kind++;
                    program = victimOf(kind);
                }
                if (program == NONE) {
                    return false;
                }
                kinds[steps] = kind;
                programs[steps] = program;
                used -= tryStep(kind, program);
            }
            return used <= room.limit;
        }
    }

    /** All that changes can change. */
    private static final class Phone {
        private static final int MOST_WAITING = 5;
        private static final int PRECIOUS_MINUTES = 60;

        private final Trims trims;
        private Description description;
        final Room room;
        final Habits habits = new Habits();
        final Journal journal = new Journal();
        int minute;
        int policy;
        int shown;
        final int[] pictures = new int[MOST_PROGRAMS];
        final int[] complaints = new int[MOST_PROGRAMS];
        private final int[] complainedAt = new int[MOST_PROGRAMS];
        final int[] noticesWaiting = new int[MOST_PROGRAMS];
        private final int[] notices = new int[MOST_PROGRAMS * MOST_WAITING];

        Phone(Trims trims, Description told) {
            this.trims = trims;
            room = new Room(told);
            begin(told);
        }

        void begin(Description told) {
            description = told;
            room.begin(told);
            habits.begin(told);
            journal.begin();
            minute = 0;
            policy = told.policy;
            shown = NONE;
            Arrays.fill(pictures, 0);
            Arrays.fill(complaints, 0);
            Arrays.fill(noticesWaiting, 0);
        }

        void copyFrom(Phone other) {
            description = other.description;
            room.copyFrom(other.room);
            habits.copyFrom(other.habits);
            journal.copyFrom(other.journal);
            minute = other.minute;
            policy = other.policy;
            shown = other.shown;
            System.arraycopy(other.pictures, 0, pictures, 0, pictures.length);
            System.arraycopy(other.complaints, 0, complaints, 0, complaints.length);
            System.arraycopy(other.complainedAt, 0, complainedAt, 0, complainedAt.length);
            System.arraycopy(other.noticesWaiting, 0, noticesWaiting, 0, noticesWaiting.length);
            System.arraycopy(other.notices, 0, notices, 0, notices.length);
        }

        int complaintsOfAll() {
            int sum = 0;
            for (int p = 0; p < description.count; p++) {
                sum += complaints[p];
            }
            return sum;
        }

        boolean isPrecious(int p) {
            return complaints[p] > 0 && minute - complainedAt[p] < PRECIOUS_MINUTES;
        }

        // -- memory

        void prepareTrims() {
            trims.room.copyFrom(room);
            trims.ranksAreSizes = policy == BY_SIZE;
            for (int p = 0; p < description.count; p++) {
                trims.precious[p] = isPrecious(p);
                if (policy == BY_SIZE) {
                    trims.ranks[p] = room.usedBy(p);
                } else if (policy == BY_RECENT) {
                    trims.ranks[p] = minute - habits.shownUntil[p];
                } else {
                    trims.ranks[p] = habits.promiseOf(p, shown, minute);
                }
            }
        }

        /** Whether memory could be made; otherwise no step was done. */
        boolean makeMemory() {
            if (!room.isOverLimit()) {
                return true;
            }
            prepareTrims();
            if (!trims.findSteps()) {
                return false;
            }
            for (int i = 0; i < trims.steps; i++) {
                doStep(trims.kinds[i], trims.programs[i]);
            }
            return true;
        }

        void doStep(int kind, int p) {
            room.doStep(kind, p);
            if (kind == CLOSE) {
                forgetWhatItShowed(p);
            }
            journal.add(kind, p, minute);
        }

        private void forgetWhatItShowed(int p) {
            pictures[p] = 0;
            noticesWaiting[p] = 0;
        }

        // -- showing

        int waitFor(int p) {
            int base = description.numbers[p][Description.BASE];
            switch (room.state[p]) {
                case SHOWN:
                    return 0;
                case RESTING:
                case FROZEN:
                    return description.warmCost;
                case ZIPPED:
                    return description.warmCost + description.zipCost * room.pages[p];
                case SAVED:
                    return description.savedCost * base;
                default:
                    return description.newCost * base;
            }
        }

        /** Whether the program is shown then. If it is refused, this phone is not fit for use any more. */
        boolean bringUp(int p) {
            if (p == shown) {
                return true;
            }
            int wait = waitFor(p);
            int before = habits.last;
            letShownRest();
            shown = p;
            habits.last = p;
            room.bringUp(p);
            if (!makeMemory()) {
                return false;
            }
            habits.countShowing(p, before, minute);
            journal.add(CAME_TO_BE_SHOWN, p, minute);
            if (wait > description.numbers[p][Description.PATIENCE]) {
                complain(p);
            }
            return true;
        }

        private void complain(int p) {
            complaints[p]++;
            complainedAt[p] = minute;
            journal.add(COMPLAINT, p, minute);
        }

        void letShownRest() {
            if (shown >= 0) {
                room.state[shown] = RESTING;
                habits.shownUntil[shown] = minute;
                shown = NONE;
            }
        }

        void shut(int p) {
            if (p == shown) {
                letShownRest();
            }
            room.empty(p);
            forgetWhatItShowed(p);
        }

        // -- time

        void passMinute() {
            minute++;
            if (shown >= 0) {
                givePages(shown, description.numbers[shown][Description.GROW]);
            }
            for (int p = 0; p < description.count; p++) {
                if (isWorkDue(p)) {
                    givePages(p, 1);
                }
            }
        }

        private boolean isWorkDue(int p) {
            int every = description.numbers[p][Description.EVERY];
            return room.state[p] == RESTING && every > 0 && (minute - habits.shownUntil[p]) % every == 0;
        }

        private void givePages(int p, int wanted) {
            int more = Math.min(wanted, description.numbers[p][Description.MOST] - room.pages[p]);
            room.pages[p] += more;
            if (!makeMemory()) {
                room.pages[p] -= more;
                journal.add(REFUSED_PAGE, p, minute);
            }
        }

        // -- notices

        int waitingNotice(int p, int k) {
            return k < 0 || k >= noticesWaiting[p] ? NONE : notices[p * MOST_WAITING + k];
        }

        void takeIn(int p, int number) {
            pictures[p] = 31 * pictures[p] + number;
        }

        void deliver(int p, int number) {
            if (room.state[p] == SHOWN) {
                takeIn(p, number);
            } else if (room.state[p] != CLOSED) {
                if (noticesWaiting[p] >= MOST_WAITING) {
                    dropFirst(p);
                }
                notices[p * MOST_WAITING + noticesWaiting[p]] = number;
                noticesWaiting[p]++;
            }
        }

        void takeInFirst(int p) {
            takeIn(p, notices[p * MOST_WAITING]);
            dropFirst(p);
        }

        private void dropFirst(int p) {
            int first = p * MOST_WAITING;
            System.arraycopy(notices, first + 1, notices, first, MOST_WAITING - 1);
            noticesWaiting[p]--;
        }
    }

    /** The phones as they were before the latest changes; its phones are used again and again. */
    private static final class History {
        private final Phone[] phones = new Phone[MOST_CHANGES];
        private int next = 0;
        int count = 0;

        History(Trims trims, Description description) {
            for (int i = 0; i < MOST_CHANGES; i++) {
                phones[i] = new Phone(trims, description);
            }
        }

        void clear() {
            count = 0;
        }

        /** Keeps a phone and gives another one for it, which nobody needs any more. */
        Phone keep(Phone phone) {
            Phone unused = phones[next];
            phones[next] = phone;
            next = (next + 1) % MOST_CHANGES;
            count = Math.min(count + 1, MOST_CHANGES);
            return unused;
        }

        /** Gives the phone that was kept last and takes one for it, which nobody needs any more. */
        Phone takeBack(Phone unused) {
            next = (next + MOST_CHANGES - 1) % MOST_CHANGES;
            count--;
            Phone phone = phones[next];
            phones[next] = unused;
            return phone;
        }
    }
}
