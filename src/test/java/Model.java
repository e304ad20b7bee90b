import java.util.ArrayDeque;
import java.util.ArrayList;
import java.util.Deque;
import java.util.List;
import java.util.regex.Matcher;
import java.util.regex.Pattern;

/**
 * The document told a second time, as slowly as it likes: every change and every question works on a copy of the whole
 * phone. RandomRunsTest compares its answers with those of PhoneMemory.
 */
final class Model {
    private static final class Refused extends RuntimeException {
        private static final long serialVersionUID = 1;
    }

    private static final class ParseError extends RuntimeException {
        private static final long serialVersionUID = 1;
        final int code;
        final int position;

        ParseError(int code, int position) {
            this.code = code;
            this.position = position;
        }
    }

    private static final class Program {
        String name;
        int base, cacheSize, grow, most, ratio, screen, patience, every;
        int state, pages, cache, picture, complaints, complaintAt;
        boolean pinned, wasShown;
        int shownUntil;
        List<Integer> gaps = new ArrayList<>();
        List<Integer> waiting = new ArrayList<>();

        Program copy() {
            Program c = new Program();
            c.name = name;
            c.base = base;
            c.cacheSize = cacheSize;
            c.grow = grow;
            c.most = most;
            c.ratio = ratio;
            c.screen = screen;
            c.patience = patience;
            c.every = every;
            c.state = state;
            c.pages = pages;
            c.cache = cache;
            c.picture = picture;
            c.complaints = complaints;
            c.complaintAt = complaintAt;
            c.pinned = pinned;
            c.wasShown = wasShown;
            c.shownUntil = shownUntil;
            c.gaps = new ArrayList<>(gaps);
            c.waiting = new ArrayList<>(waiting);
            return c;
        }

        int uses() {
            if (state == 0) {
                return 0;
            }
            if (state == 4) {
                return (pages * ratio + 99) / 100;
            }
            return state == 5 ? screen : pages + cache;
        }

        void shut() {
            state = 0;
            pages = 0;
            cache = 0;
            picture = 0;
            waiting.clear();
        }
    }

    private static final class Phone {
        int limit = 100, policy, minute, last = -1;
        int costNew = 10, costZip = 2, costSaved = 5, costWarm = 20;
        List<Program> programs = new ArrayList<>();
        List<int[]> log = new ArrayList<>();
        int[][] followed = new int[10][10];

        Phone copy() {
            Phone c = new Phone();
            c.limit = limit;
            c.policy = policy;
            c.minute = minute;
            c.last = last;
            c.costNew = costNew;
            c.costZip = costZip;
            c.costSaved = costSaved;
            c.costWarm = costWarm;
            for (Program p : programs) {
                c.programs.add(p.copy());
            }
            c.log.addAll(log);
            for (int i = 0; i < 10; i++) {
                c.followed[i] = followed[i].clone();
            }
            return c;
        }

        int total() {
            return programs.stream().mapToInt(Program::uses).sum();
        }

        int shown() {
            for (int i = 0; i < programs.size(); i++) {
                if (programs.get(i).state == 1) {
                    return i;
                }
            }
            return -1;
        }

        int habit(int i) {
            List<Integer> gaps = programs.get(i).gaps;
            return gaps.isEmpty() ? 600 : gaps.stream().mapToInt(g -> g).sum() / gaps.size();
        }

        int promise(int i) {
            Program p = programs.get(i);
            if (p.state == 1) {
                return 0;
            }
            if (last >= 0) {
                int all = 0;
                for (int n : followed[last]) {
                    all += n;
                }
                if (followed[last][i] >= 1 && followed[last][i] >= all - followed[last][i]) {
                    return 0;
                }
            }
            if (!p.wasShown) {
                return 600;
            }
            int left = habit(i) - (minute - p.shownUntil);
            return left < 0 ? 0 : left;
        }

        boolean precious(int i) {
            Program p = programs.get(i);
            return p.complaints > 0 && minute <= p.complaintAt + 59;
        }

        boolean can(int kind, int i) {
            Program p = programs.get(i);
            boolean rests = p.state == 2;
            boolean frozen = p.state == 3;
            return kind == 1 && (rests || frozen) && p.cache != 0
                || kind == 2 && frozen && !p.pinned
                || kind == 3 && rests && !p.pinned
                || kind == 4 && p.state == 4 && !p.pinned
                || kind == 5 && p.state == 5 && !p.pinned
                || kind == 6 && p.state == 1 && p.cache != 0;
        }

        int rank(int i) {
            Program p = programs.get(i);
            return policy == 0 ? promise(i) : policy == 1 ? p.uses() : minute - p.shownUntil;
        }

        int victim(int kind) {
            List<Integer> able = new ArrayList<>();
            for (int i = 0; i < programs.size(); i++) {
                if (can(kind, i)) {
                    able.add(i);
                }
            }
            if (kind == 4 || kind == 5) {
                List<Integer> others = new ArrayList<>(able);
                others.removeIf(this::precious);
                if (!others.isEmpty()) {
                    able = others;
                }
            }
            int best = -1;
            for (int i : able) {
                if (best == -1 || rank(i) > rank(best)) {
                    best = i;
                }
            }
            return best;
        }

        void step(int kind, int i) {
            Program p = programs.get(i);
            if (kind == 1 || kind == 2 || kind == 6) {
                p.cache = 0;
            }
            if (kind == 2) {
                p.state = 4;
            } else if (kind == 3) {
                p.state = 3;
            } else if (kind == 4) {
                p.state = 5;
                p.pages = 0;
            } else if (kind == 5) {
                p.shut();
            }
            log.add(new int[] {kind, i, minute});
        }

        int makeMemory() {
            int steps = 0;
            while (total() > limit) {
                int kind = 1;
                while (kind <= 6 && victim(kind) < 0) {
                    kind++;
                }
                if (kind == 7) {
                    throw new Refused();
                }
                step(kind, victim(kind));
                steps++;
            }
            return steps;
        }

        int waitOf(int i) {
            Program p = programs.get(i);
            int[] waits = {costNew * p.base, 0, costWarm, costWarm, costWarm + costZip * p.pages, costSaved * p.base};
            return waits[p.state];
        }

        /** The number of steps. */
        int show(int i) {
            Program p = programs.get(i);
            if (p.state == 1) {
                return 0;
            }
            int wait = waitOf(i);
            int before = last;
            home();
            if (p.state == 0 || p.state == 5) {
                p.pages = p.base;
                p.cache = p.cacheSize;
            }
            p.state = 1;
            last = i;
            int steps = makeMemory();
            if (p.wasShown) {
                p.gaps.add(minute - p.shownUntil);
                if (p.gaps.size() > 4) {
                    p.gaps.remove(0);
                }
            }
            p.wasShown = true;
            if (before != -1 && before != i) {
                followed[before][i]++;
            }
            log.add(new int[] {7, i, minute});
            if (wait > p.patience) {
                p.complaints++;
                p.complaintAt = minute;
                log.add(new int[] {8, i, minute});
            }
            return steps;
        }

        int home() {
            int i = shown();
            if (i >= 0) {
                programs.get(i).state = 2;
                programs.get(i).shownUntil = minute;
            }
            return i;
        }

        int count(int kind) {
            int n = 0;
            for (int[] entry : log) {
                n += entry[0] == kind ? 1 : 0;
            }
            return n;
        }
    }

    private final StringBuilder buffer = new StringBuilder();
    private int errorAt = -1;
    private Phone now = new Phone();
    private final Deque<Phone> history = new ArrayDeque<>();
    private final Phone[] slots = new Phone[2];

    int append(int a, int b, int c, int d, int e) {
        if (buffer.length() + 20 > 700) {
            return -1;
        }
        for (int four : new int[] {a, b, c, d, e}) {
            buffer.append((char) (four >>> 24)).append((char) (four >> 16 & 255));
            buffer.append((char) (four >> 8 & 255)).append((char) (four & 255));
        }
        return buffer.length();
    }

    int parse(int length) {
        if (length < 0 || length > buffer.length()) {
            throw new IllegalArgumentException();
        }
        String text = buffer.substring(0, length);
        buffer.setLength(0);
        try {
            now = new TextReader(text).phone();
        } catch (ParseError e) {
            errorAt = e.position;
            return e.code;
        }
        errorAt = -1;
        history.clear();
        slots[0] = null;
        slots[1] = null;
        return 0;
    }

    private static final class TextReader {
        private final List<String> tokens = new ArrayList<>();
        private final List<Integer> positions = new ArrayList<>();
        private int at = 0;

        TextReader(String text) {
            Matcher m = Pattern.compile("[a-z]+|[0-9]+|[^ \\n]").matcher(text);
            while (m.find()) {
                tokens.add(m.group());
                positions.add(m.start());
            }
            tokens.add("");
            positions.add(text.length());
        }

        private ParseError error(int code) {
            return new ParseError(code, positions.get(at));
        }

        private String take(String form) {
            String token = tokens.get(at);
            if (!token.matches(form)) {
                throw error(1);
            }
            at++;
            return token;
        }

        private String word() {
            return take("[a-z]{1,8}");
        }

        private int number(int least, int most) {
            int value = Integer.parseInt(take("[0-9]{1,4}"));
            if (value < least || value > most) {
                at--;
                throw error(3);
            }
            return value;
        }

        private int named(Phone phone, String name) {
            for (int i = 0; i < phone.programs.size(); i++) {
                if (phone.programs.get(i).name.equals(name)) {
                    return i;
                }
            }
            return -1;
        }

        Phone phone() {
            Phone phone = new Phone();
            take("phone");
            phone.limit = number(50, 2000);
            take(";");
            boolean costs = false;
            boolean policy = false;
            while (!tokens.get(at).isEmpty()) {
                String token = tokens.get(at);
                if (token.equals("program")) {
                    program(phone);
                } else if (token.equals("work")) {
                    work(phone);
                } else if (token.equals("costs")) {
                    if (costs) {
                        throw error(2);
                    }
                    costs = true;
                    at++;
                    phone.costNew = number(0, 99);
                    phone.costZip = number(0, 99);
                    phone.costSaved = number(0, 99);
                    phone.costWarm = number(0, 99);
                } else if (token.equals("policy")) {
                    if (policy) {
                        throw error(2);
                    }
                    policy = true;
                    at++;
                    phone.policy = List.of("promise", "size", "recent").indexOf(take("promise|size|recent"));
                } else {
                    throw error(1);
                }
                take(";");
            }
            return phone;
        }

        private void program(Phone phone) {
            if (phone.programs.size() == 10) {
                throw error(5);
            }
            at++;
            Program p = new Program();
            p.name = word();
            if (named(phone, p.name) >= 0) {
                at--;
                throw error(2);
            }
            p.base = number(1, 400);
            p.cacheSize = number(0, 200);
            p.grow = number(0, 20);
            p.most = number(p.base, 999);
            p.ratio = number(10, 100);
            p.screen = number(1, p.base);
            p.patience = number(0, 9999);
            phone.programs.add(p);
        }

        private void work(Phone phone) {
            at++;
            int i = named(phone, word());
            if (i < 0 || phone.programs.get(i).every > 0) {
                at--;
                throw error(i < 0 ? 4 : 2);
            }
            phone.programs.get(i).every = number(1, 60);
        }
    }

    int errorPosition() {
        return errorAt;
    }

    int size(int what) {
        argument(what, 0, 8);
        int[] answers = {now.programs.size(), now.limit, now.total(), now.minute, now.shown(), now.last, now.policy,
            now.count(8), history.size()};
        return answers[what];
    }

    int find() {
        String name = buffer.toString().replaceAll(" +\\z", "");
        buffer.setLength(0);
        for (int i = 0; i < now.programs.size(); i++) {
            if (now.programs.get(i).name.equals(name)) {
                return i;
            }
        }
        return -1;
    }

    private Program at(int program) {
        if (program < 0 || program >= now.programs.size()) {
            throw new IndexOutOfBoundsException();
        }
        return now.programs.get(program);
    }

    private static void argument(int value, int least, int most) {
        if (value < least || value > most) {
            throw new IllegalArgumentException();
        }
    }

    private static void state(boolean fine) {
        if (!fine) {
            throw new IllegalStateException();
        }
    }

    int program(int program, int what) {
        Program p = at(program);
        argument(what, 0, 7);
        int[] answers = {p.state, p.pages, p.cache, p.uses(), p.complaints, p.waiting.size(), p.pinned ? 1 : 0,
            now.precious(program) ? 1 : 0};
        return answers[what];
    }

    int told(int program, int what) {
        Program p = at(program);
        argument(what, 0, 7);
        int[] answers = {p.base, p.cacheSize, p.grow, p.most, p.ratio, p.screen, p.patience, p.every};
        return answers[what];
    }

    int picture(int program) {
        return at(program).picture;
    }

    int notice(int program, int k) {
        Program p = at(program);
        return k >= 0 && k < p.waiting.size() ? p.waiting.get(k) : -1;
    }

    int habit(int program) {
        at(program);
        return now.habit(program);
    }

    int promise(int program) {
        at(program);
        return now.promise(program);
    }

    int followed(int first, int following) {
        at(first);
        at(following);
        return now.followed[first][following];
    }

    int likeliest(int program) {
        at(program);
        int best = 0;
        for (int i = 9; i >= 0; i--) {
            if (now.followed[program][i] >= now.followed[program][best]) {
                best = i;
            }
        }
        return now.followed[program][best] == 0 ? -1 : best;
    }

    int victim(int kind) {
        argument(kind, 1, 6);
        return now.victim(kind);
    }

    int freed(int kind) {
        argument(kind, 1, 6);
        Phone copy = now.copy();
        if (copy.victim(kind) < 0) {
            return 0;
        }
        copy.step(kind, copy.victim(kind));
        return now.total() - copy.total();
    }

    int waitOf(int program) {
        at(program);
        return now.waitOf(program);
    }

    int whyNotShow(int program) {
        Program p = at(program);
        if (trimsFor(program) >= 0) {
            return 0;
        }
        return (p.state == 4 ? p.pages : p.state == 0 || p.state == 5 ? p.base : 0) > now.limit ? 1 : 2;
    }

    int trimsFor(int program) {
        at(program);
        try {
            return now.copy().show(program);
        } catch (Refused e) {
            return -1;
        }
    }

    int stateAfter(int shown, int program) {
        at(shown);
        at(program);
        Phone copy = now.copy();
        try {
            copy.show(shown);
            return copy.programs.get(program).state;
        } catch (Refused e) {
            return -1;
        }
    }

    int waitsFor(int policy, int first, int second, int third) {
        at(first);
        at(second);
        at(third);
        argument(policy, 0, 2);
        Phone copy = now.copy();
        copy.policy = policy;
        int sum = 0;
        for (int program : new int[] {first, second, third}) {
            Phone next = copy.copy();
            try {
                next.show(program);
                sum += copy.waitOf(program);
                copy = next;
            } catch (Refused e) {
                continue;
            }
        }
        return sum;
    }

    int log(int k, int part) {
        argument(part, 0, 2);
        return k < 0 || k >= 24 || k >= now.log.size() ? -1 : now.log.get(now.log.size() - 1 - k)[part];
    }

    int account(int kind) {
        argument(kind, 1, 9);
        return now.count(kind);
    }

    private void change(Phone next) {
        history.addLast(now);
        if (history.size() > 10) {
            history.removeFirst();
        }
        now = next;
    }

    int show(int program) {
        at(program);
        int wait = now.waitOf(program);
        Phone copy = now.copy();
        try {
            copy.show(program);
        } catch (Refused e) {
            throw new IllegalStateException();
        }
        change(copy);
        return wait;
    }

    int home() {
        Phone copy = now.copy();
        int answer = copy.home();
        change(copy);
        return answer;
    }

    int pass(int minutes) {
        argument(minutes, 1, 240);
        Phone copy = now.copy();
        int steps = 0;
        for (int m = 0; m < minutes; m++) {
            copy.minute++;
            int shown = copy.shown();
            for (int turn = -1; turn < copy.programs.size(); turn++) {
                int i = turn < 0 ? shown : turn;
                if (i < 0) {
                    continue;
                }
                Program p = copy.programs.get(i);
                boolean due = turn < 0
                    || p.state == 2 && p.every > 0 && (copy.minute - p.shownUntil) % p.every == 0;
                int pages = Math.min(p.most, p.pages + (turn < 0 ? p.grow : 1));
                if (due && pages > p.pages) {
                    Phone next = copy.copy();
                    next.programs.get(i).pages = pages;
                    try {
                        steps += next.makeMemory();
                        copy = next;
                    } catch (Refused e) {
                        copy.log.add(new int[] {9, i, copy.minute});
                    }
                }
            }
        }
        change(copy);
        return steps;
    }

    int touch(int number) {
        argument(number, 0, 999);
        int i = now.shown();
        state(i >= 0);
        return send(i, number) * 0 + at(i).picture;
    }

    int send(int program, int notice) {
        at(program);
        argument(notice, 0, 999);
        Phone copy = now.copy();
        Program p = copy.programs.get(program);
        if (p.state == 1) {
            p.picture = p.picture * 31 + notice;
        } else if (p.state > 1) {
            p.waiting.add(notice);
            if (p.waiting.size() == 6) {
                p.waiting.remove(0);
            }
        }
        change(copy);
        return p.waiting.size();
    }

    int read() {
        int i = now.shown();
        state(i >= 0 && !at(i).waiting.isEmpty());
        Phone copy = now.copy();
        Program p = copy.programs.get(i);
        p.picture = p.picture * 31 + p.waiting.remove(0);
        change(copy);
        return p.picture;
    }

    boolean pin(int program, boolean pinned) {
        boolean before = at(program).pinned;
        Phone copy = now.copy();
        copy.programs.get(program).pinned = pinned;
        change(copy);
        return before;
    }

    int trim(int kind) {
        argument(kind, 1, 6);
        int i = now.victim(kind);
        state(i >= 0);
        Phone copy = now.copy();
        copy.step(kind, i);
        state(copy.total() <= copy.limit);
        change(copy);
        return i;
    }

    int close(int program) {
        state(at(program).state != 0);
        Phone copy = now.copy();
        if (copy.shown() == program) {
            copy.home();
        }
        copy.programs.get(program).shut();
        int less = now.total() - copy.total();
        change(copy);
        return less;
    }

    int setLimit(int limit) {
        argument(limit, 50, 2000);
        Phone copy = now.copy();
        copy.limit = limit;
        int steps;
        try {
            steps = copy.makeMemory();
        } catch (Refused e) {
            throw new IllegalStateException();
        }
        change(copy);
        return steps;
    }

    int setPolicy(int policy) {
        argument(policy, 0, 2);
        int before = now.policy;
        Phone copy = now.copy();
        copy.policy = policy;
        change(copy);
        return before;
    }

    int undo() {
        if (history.isEmpty()) {
            return -1;
        }
        now = history.removeLast();
        return history.size();
    }

    private static void slot(int slot) {
        if (slot < 0 || slot > 1) {
            throw new IndexOutOfBoundsException();
        }
    }

    boolean saveSnapshot(int slot) {
        slot(slot);
        boolean before = slots[slot] != null;
        slots[slot] = now.copy();
        return before;
    }

    int restoreSnapshot(int slot) {
        slot(slot);
        state(slots[slot] != null);
        now = slots[slot].copy();
        history.clear();
        return now.minute;
    }
}
