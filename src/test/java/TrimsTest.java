/** Promises 15 to 23: questions about trims and waits, and the log. */
public final class TrimsTest {
    private static final String ROOMY = "phone 2000;program a 30 5 0 30 50 9 9999;program b 50 5 0 50 50 9 9999;"
            + "program c 40 5 0 40 50 9 9999;";
    private static final String TIGHT = "phone 100;program mail 40 10 0 60 50 5 1000;program maps 50 20 5 80 40 8 100;"
            + "program song 30 0 0 30 50 3 50;";

    public static void main(String[] args) {
        exceptions();
        promise15Policies();
        promise15Kinds();
        promise15Precious();
        promise16Freed();
        promise17WaitOf();
        promise18WhyNotShow();
        promise18Zipped();
        promise19TrimsFor();
        promise20StateAfter();
        promise21WaitsFor();
        promise21Details();
        promise22Log();
        promise23Account();
        questionsChangeNothing();
        Check.end("TrimsTest");
    }

    private static void exceptions() {
        PhoneMemory x = Check.phone(ROOMY);
        for (int kind : new int[] {0, 7, -1, Integer.MIN_VALUE, Integer.MAX_VALUE}) {
            Check.noArgument("15 kind " + kind, () -> x.victim(kind));
            Check.noArgument("16 kind " + kind, () -> x.freed(kind));
        }
        for (int p : new int[] {-1, 3, 10, Integer.MIN_VALUE, Integer.MAX_VALUE}) {
            Check.noIndex("17 waitOf " + p, () -> x.waitOf(p));
            Check.noIndex("18 whyNotShow " + p, () -> x.whyNotShow(p));
            Check.noIndex("19 trimsFor " + p, () -> x.trimsFor(p));
            Check.noIndex("20 stateAfter " + p, () -> x.stateAfter(p, 0));
            Check.noIndex("20 stateAfter 0, " + p, () -> x.stateAfter(0, p));
            Check.noIndex("21 first " + p, () -> x.waitsFor(0, p, 0, 0));
            Check.noIndex("21 second " + p, () -> x.waitsFor(0, 0, p, 0));
            Check.noIndex("21 third " + p, () -> x.waitsFor(0, 0, 0, p));
            Check.noIndex("21 before policy " + p, () -> x.waitsFor(3, 0, 0, p));
        }
        for (int policy : new int[] {-1, 3, Integer.MIN_VALUE, Integer.MAX_VALUE}) {
            Check.noArgument("21 policy " + policy, () -> x.waitsFor(policy, 0, 0, 0));
            Check.noArgument("22 part " + policy, () -> x.log(0, policy));
            Check.noArgument("22 part first " + policy, () -> x.log(-1, policy));
        }
        for (int kind : new int[] {0, 10, -1, Integer.MIN_VALUE, Integer.MAX_VALUE}) {
            Check.noArgument("23 kind " + kind, () -> x.account(kind));
        }
    }

    /** All three rest: a for 2 minutes, b for 1, c for 0. */
    private static PhoneMemory resting(String text) {
        PhoneMemory x = Check.phone(text);
        x.show(0);
        x.pass(1);
        x.show(1);
        x.pass(1);
        x.show(2);
        x.pass(1);
        x.home();
        return x;
    }

    private static void promise15Policies() {
        PhoneMemory x = resting(ROOMY);
        Check.equal("15 promise, 1", 2, x.victim(1));
        Check.equal("15 promise, 3", 2, x.victim(3));
        x.setPolicy(1);
        Check.equal("15 size, 1", 1, x.victim(1));
        Check.equal("15 size, 3", 1, x.victim(3));
        x.setPolicy(2);
        Check.equal("15 recent, 1", 0, x.victim(1));
        Check.equal("15 recent, 3", 0, x.victim(3));
        // of programs with the same rank the smallest number
        PhoneMemory y = Check.phone("phone 500;program a 20 5 0 20 50 9 9999;program b 30 5 0 30 50 9 9999;"
                + "program c 30 5 0 30 50 9 9999;");
        y.show(2);
        y.show(1);
        y.show(0);
        y.home();
        for (int policy = 0; policy < 3; policy++) {
            y.setPolicy(policy);
            Check.equal("15 same rank, policy " + policy, policy == 1 ? 1 : 0, y.victim(3));
        }
        y.pin(0, true);
        Check.equal("15 same rank, without a pinned one", 1, y.victim(3));
        // by promise: what follows the last one keeps its place
        PhoneMemory z = Check.phone(ROOMY);
        z.show(0);
        z.show(1);
        z.show(0);
        z.show(1);
        z.show(0);
        z.home();
        Check.equal("15 promises 0 and 0", 0, z.victim(3));
        z.pass(10);
        z.show(2);
        z.pass(10);
        z.show(0);
        z.home();
        // gaps of a: 0, 0 and 20, so its habit is 6; b followed a in 2 of 3 cases, so its promise is 0; c: 600
        Check.equal("15 promises 6, 0 and 600", 2, z.victim(3));
        z.close(2);
        Check.equal("15 promises 6 and 0", 0, z.victim(3));
    }

    private static void promise15Kinds() {
        PhoneMemory x = resting(ROOMY);
        x.setPolicy(1);
        int[] none = {2, 4, 5, 6};
        for (int kind : none) {
            Check.equal("15 none for " + kind, -1, x.victim(kind));
        }
        x.pin(1, true);
        Check.equal("15 pinned, 1", 1, x.victim(1));
        Check.equal("15 pinned, 3", 2, x.victim(3));
        x.trim(1);
        Check.equal("15 without a cache", 2, x.victim(1));
        PhoneMemory y = Check.phone("phone 90;program a 10 1 0 10 50 1 9999;");
        y.show(0);
        Check.equal("15 a cache of 1, shown", 0, y.victim(6));
        y.home();
        Check.equal("15 a cache of 1, resting", 0, y.victim(1));
        x.trim(3);
        Check.equal("15 frozen, 1", 2, x.victim(1));
        Check.equal("15 frozen, 2", 2, x.victim(2));
        Check.equal("15 frozen, 3", 0, x.victim(3));
        x.pin(2, true);
        Check.equal("15 pinned and frozen", -1, x.victim(2));
        x.pin(2, false);
        x.trim(2);
        Check.equal("15 zipped, 1", 0, x.victim(1));
        Check.equal("15 zipped, 4", 2, x.victim(4));
        x.pin(2, true);
        Check.equal("15 pinned and zipped", -1, x.victim(4));
        x.pin(2, false);
        x.trim(4);
        Check.equal("15 saved, 5", 2, x.victim(5));
        x.pin(2, true);
        Check.equal("15 pinned and saved", -1, x.victim(5));
        x.show(0);
        Check.equal("15 shown, 1", -1, x.victim(1));
        Check.equal("15 shown, 3", -1, x.victim(3));
        Check.equal("15 shown, 6", 0, x.victim(6));
        x.pin(0, true);
        Check.equal("15 shown and pinned, 6", 0, x.victim(6));
        x.trim(6);
        Check.equal("15 shown without a cache, 6", -1, x.victim(6));
    }

    /** a is precious from minute 0 to 59, and of more pages. */
    private static void promise15Precious() {
        PhoneMemory x = Check.phone("phone 2000;program a 80 0 0 80 50 9 0;program b 50 0 0 50 50 8 9999;policy size;");
        x.show(0);
        x.show(1);
        x.home();
        Check.equal("15 precious, 3", 0, x.victim(3));
        x.trim(3);
        x.trim(3);
        Check.equal("15 precious, 2", 0, x.victim(2));
        x.trim(2);
        Check.equal("15 only the precious one, 4", 0, x.victim(4));
        x.trim(2);
        Check.equal("15 precious, 4", 1, x.victim(4));
        Check.equal("16 precious, 4", 17, x.freed(4));
        x.pin(1, true);
        Check.equal("15 the other one is pinned, 4", 0, x.victim(4));
        x.pin(1, false);
        x.pass(59);
        Check.equal("15 precious for the last minute, 4", 1, x.victim(4));
        x.pass(1);
        Check.equal("15 not precious any more, 4", 0, x.victim(4));
        x.undo();
        x.trim(4);
        Check.equal("15 only the precious one is zipped, 4", 0, x.victim(4));
        x.trim(4);
        Check.equal("15 precious, 5", 1, x.victim(5));
        x.pass(1);
        Check.equal("15 not precious any more, 5", 0, x.victim(5));
        // among precious ones the rank counts
        PhoneMemory y = Check.phone("phone 2000;program a 50 0 0 50 50 9 0;program b 80 0 0 80 50 8 0;policy size;");
        y.show(0);
        y.show(1);
        y.home();
        for (int i = 0; i < 2; i++) {
            y.trim(3);
            y.trim(2);
        }
        Check.equal("15 both are precious", 1, y.victim(4));
    }

    private static void promise16Freed() {
        PhoneMemory x = resting(ROOMY);
        x.setPolicy(1);
        for (int kind : new int[] {2, 4, 5, 6}) {
            Check.equal("16 none for " + kind, 0, x.freed(kind));
        }
        Check.equal("16 cache", 5, x.freed(1));
        Check.equal("16 freeze", 0, x.freed(3));
        x.trim(3);
        Check.equal("16 zip", 30, x.freed(2));
        x.trim(2);
        Check.equal("16 save", 16, x.freed(4));
        x.trim(4);
        Check.equal("16 close", 9, x.freed(5));
        x.show(1);
        Check.equal("16 cache of the shown one", 5, x.freed(6));
        PhoneMemory y = Check.phone("phone 500;program a 100 0 0 100 10 100 9999;");
        y.show(0);
        y.home();
        y.trim(3);
        Check.equal("16 zip of 10 percent", 90, y.freed(2));
        y.trim(2);
        Check.equal("16 save takes more", -90, y.freed(4));
    }

    private static void promise17WaitOf() {
        PhoneMemory x = Check.phone("phone 300;costs 7 3 4 11;program a 40 10 5 60 50 5 9999;");
        Check.equal("17 closed", 280, x.waitOf(0));
        x.show(0);
        Check.equal("17 shown", 0, x.waitOf(0));
        x.pass(2);
        x.home();
        Check.equal("17 resting", 11, x.waitOf(0));
        x.trim(3);
        Check.equal("17 frozen", 11, x.waitOf(0));
        x.trim(2);
        Check.equal("17 zipped", 11 + 3 * 50, x.waitOf(0));
        x.trim(4);
        Check.equal("17 saved", 160, x.waitOf(0));
        PhoneMemory y = Check.phone("phone 50;program a 51 0 0 60 50 5 9999;");
        Check.equal("17 would be refused", 510, y.waitOf(0));
    }

    private static void promise18WhyNotShow() {
        PhoneMemory x = Check.phone("phone 50;program a 51 0 0 60 50 5 9999;program b 50 200 0 60 50 5 9999;"
                + "program c 20 0 0 20 50 5 9999;");
        Check.equal("18 base above limit", 1, x.whyNotShow(0));
        Check.equal("18 just limit, the cache is dropped", 0, x.whyNotShow(1));
        x.show(2);
        Check.equal("18 shown", 0, x.whyNotShow(2));
        Check.equal("18 the other one can be closed", 0, x.whyNotShow(1));
        x.pin(2, true);
        Check.equal("18 the other one is pinned", 2, x.whyNotShow(1));
        Check.equal("18 base above limit, too", 1, x.whyNotShow(0));
        Check.equal("18 shown and pinned", 0, x.whyNotShow(2));
        x.home();
        Check.equal("18 resting", 0, x.whyNotShow(2));
    }

    /** A zipped program can have more pages than fit; a saved one comes with its base. */
    private static void promise18Zipped() {
        PhoneMemory x = Check.phone("phone 100;program a 40 0 20 80 10 30 9999;program b 20 0 0 20 50 5 9999;");
        x.show(0);
        x.pass(2);
        x.home();
        x.trim(3);
        x.trim(2);
        x.setLimit(79);
        Check.equal("18 zipped, 80 of 79", 1, x.whyNotShow(0));
        Check.equal("19 zipped, 80 of 79", -1, x.trimsFor(0));
        x.setLimit(80);
        Check.equal("18 zipped, 80 of 80", 0, x.whyNotShow(0));
        x.show(1);
        x.pin(1, true);
        Check.equal("18 zipped, the other one is pinned", 2, x.whyNotShow(0));
        x.setLimit(60);
        x.trim(4);
        Check.equal("18 saved, 40 of 60", 0, x.whyNotShow(0));
        x.setLimit(59);
        Check.equal("18 saved, 60 needed of 59", 2, x.whyNotShow(0));
    }

    private static void promise19TrimsFor() {
        PhoneMemory x = Check.phone(TIGHT);
        Check.equal("19 none needed", 0, x.trimsFor(0));
        x.show(0);
        Check.equal("19 shown", 0, x.trimsFor(0));
        // 50 + 70 of 100: the cache of mail, freeze, zip
        Check.equal("19 three", 3, x.trimsFor(1));
        Check.equal("19 none", 0, x.trimsFor(2));
        x.pin(0, true);
        // 50 + 70: the cache of mail, then that of maps itself
        Check.equal("19 two", 2, x.trimsFor(1));
        x.setLimit(80);
        Check.equal("19 refused", -1, x.trimsFor(1));
        Check.noState("19 refused indeed", () -> x.show(1));
        // a full log counts on
        PhoneMemory y = Check.phone(TIGHT);
        y.show(0);
        for (int i = 0; i < 30; i++) {
            y.show(1);
            y.show(0);
        }
        y.close(1);
        // 40 + 70 of 100: freeze, zip
        Check.equal("19 with a full log", 2, y.trimsFor(1));
    }

    private static void promise20StateAfter() {
        PhoneMemory x = Check.phone(TIGHT);
        Check.equal("20 it itself", 1, x.stateAfter(0, 0));
        Check.equal("20 another one", 0, x.stateAfter(0, 1));
        x.show(0);
        Check.equal("20 zipped", 4, x.stateAfter(1, 0));
        Check.equal("20 shown", 1, x.stateAfter(1, 1));
        Check.equal("20 rests", 2, x.stateAfter(2, 0));
        Check.equal("20 it stays shown", 1, x.stateAfter(0, 0));
        Check.equal("20 the others stay", 0, x.stateAfter(0, 2));
        x.pin(0, true);
        x.setLimit(80);
        Check.equal("20 refused", -1, x.stateAfter(1, 0));
        Check.equal("20 refused, it itself", -1, x.stateAfter(1, 1));
        Check.equal("20 refused, another one", -1, x.stateAfter(1, 2));
    }

    private static void promise21WaitsFor() {
        PhoneMemory x = Check.phone(TIGHT);
        // mail new 400; maps new 500 zips mail; mail zipped 20 + 2 * 40
        Check.equal("21 there and back", 1000, x.waitsFor(0, 0, 1, 0));
        Check.equal("21 the same one", 400, x.waitsFor(1, 0, 0, 0));
        x.show(0);
        Check.equal("21 shown already", 500 + 100, x.waitsFor(2, 0, 1, 0));
        x.pin(0, true);
        x.setLimit(80);
        // maps is refused; song new 300
        Check.equal("21 refused adds 0", 300, x.waitsFor(0, 1, 2, 1));
        Check.equal("21 refused leaves the shown one", 320, x.waitsFor(0, 1, 2, 0));
        Check.equal("21 refused in between", 300, x.waitsFor(0, 2, 1, 2));
        Check.equal("21 refused twice", 300, x.waitsFor(0, 2, 1, 1));
    }

    private static void promise21Details() {
        // a, b and c fill the memory; d needs 40: by size b is zipped, by recent a and b, by promise c and a
        String text = "phone 130;costs 10 2 5 1;program a 30 0 0 30 50 9 9999;program b 80 0 0 80 50 9 9999;"
                + "program c 20 0 0 20 50 9 9999;program d 40 0 0 40 50 9 9999;";
        PhoneMemory x = resting(text);
        Check.equal("21 full", 130, x.size(2));
        // promise: c 600, b 599, a 598: c to 10, b to 40; then b (1 + 160), then a 1 or zipped
        check21(text, 0);
        check21(text, 1);
        check21(text, 2);
        Check.equal("21 policy stays", 0, x.size(6));
        // by recent: freezing and zipping a (15), b (40): 15 + 40 + 20 + 40; a is zipped, b is zipped, c rests
        Check.equal("21 recent", 400 + (1 + 60) + 1, x.waitsFor(2, 3, 0, 2));
        // by size: only b is zipped: 30 + 40 + 20 + 40 = 130
        Check.equal("21 size", 400 + 1 + 1, x.waitsFor(1, 3, 0, 2));
        // by promise: c (10), b (40): 30 + 40 + 10 + 40 = 120
        Check.equal("21 promise", 400 + 1 + (1 + 40), x.waitsFor(0, 3, 0, 2));
    }

    /** The sum must be what showing one after the other takes. */
    private static void check21(String text, int policy) {
        int count = 4;
        for (int i = 0; i < count * count * count; i++) {
            PhoneMemory x = resting(text);
            int[] programs = {i % count, i / count % count, i / count / count};
            int sum = x.waitsFor(policy, programs[0], programs[1], programs[2]);
            x.setPolicy(policy);
            for (int program : programs) {
                sum -= x.whyNotShow(program) == 0 ? x.show(program) : 0;
            }
            Check.equal("21 waits by policy " + policy + ", showings " + i, 0, sum);
        }
    }

    private static void entry(PhoneMemory x, int k, int kind, int program, int minute) {
        Check.equal("22 kind of entry " + k, kind, x.log(k, 0));
        Check.equal("22 program of entry " + k, program, x.log(k, 1));
        Check.equal("22 minute of entry " + k, minute, x.log(k, 2));
    }

    private static void promise22Log() {
        PhoneMemory x = Check.phone(TIGHT);
        Check.equal("22 empty", -1, x.log(0, 0));
        x.pass(2);
        x.show(0);
        x.pass(1);
        x.show(1);
        entry(x, 0, 8, 1, 3);
        entry(x, 1, 7, 1, 3);
        entry(x, 2, 2, 0, 3);
        entry(x, 3, 3, 0, 3);
        entry(x, 4, 1, 0, 3);
        entry(x, 5, 7, 0, 2);
        entry(x, 6, -1, -1, -1);
        entry(x, -1, -1, -1, -1);
        entry(x, Integer.MIN_VALUE, -1, -1, -1);
        entry(x, Integer.MAX_VALUE, -1, -1, -1);
        x.trim(4);
        entry(x, 0, 4, 0, 3);
        x.close(0);
        x.home();
        x.show(1);
        entry(x, 0, 7, 1, 3);
        entry(x, 1, 4, 0, 3);
        keepsTwentyFour();
        PhoneMemory y = Check.phone("phone 50;program a 45 0 3 60 50 1 9999;");
        y.show(0);
        y.pass(2);
        entry(y, 0, 9, 0, 2);
        entry(y, 1, 7, 0, 0);
    }

    private static void keepsTwentyFour() {
        for (int last = 0; last < 30; last++) {
            PhoneMemory x = Check.phone("phone 90;program a 10 0 0 10 50 1 9999;program b 10 0 0 10 50 1 9999;");
            for (int i = 0; i <= last; i++) {
                x.show(i % 2);
                x.pass(1);
            }
            for (int k = 0; k < 26; k++) {
                boolean kept = k <= last && k < 24;
                Check.equal("22 program " + k + " of " + last, kept ? (last - k) % 2 : -1, x.log(k, 1));
                Check.equal("22 minute " + k + " of " + last, kept ? last - k : -1, x.log(k, 2));
            }
            Check.equal("23 all are counted", last + 1, x.account(7));
        }
    }

    private static void accounts(String when, PhoneMemory x, int... want) {
        for (int kind = 1; kind <= 9; kind++) {
            Check.equal("23 account of " + kind + " " + when, want[kind - 1], x.account(kind));
        }
    }

    private static void promise23Account() {
        PhoneMemory x = Check.phone(TIGHT);
        accounts("at first", x, 0, 0, 0, 0, 0, 0, 0, 0, 0);
        x.show(0);
        accounts("behind the first showing", x, 0, 0, 0, 0, 0, 0, 1, 0, 0);
        x.show(1);
        accounts("behind the second one", x, 1, 1, 1, 0, 0, 0, 2, 1, 0);
        x.trim(4);
        x.trim(5);
        x.trim(6);
        accounts("behind trims", x, 1, 1, 1, 1, 1, 1, 2, 1, 0);
        x.setLimit(52);
        x.pass(1);
        accounts("behind a refused page", x, 1, 1, 1, 1, 1, 1, 2, 1, 1);
        x.pin(1, true);
        Check.noState("23 refused", () -> x.show(0));
        x.close(1);
        accounts("behind close", x, 1, 1, 1, 1, 1, 1, 2, 1, 1);
    }

    /** Everything that can be asked, before and behind all questions. */
    private static void questionsChangeNothing() {
        PhoneMemory x = Check.phone(TIGHT);
        x.show(0);
        x.touch(9);
        x.show(1);
        x.send(0, 4);
        long before = sum(x);
        long again = sum(x);
        Check.equal("15 to 21 change nothing", before, again);
        Check.equal("15 to 21 are no changes", 4, x.size(8));
        x.undo();
        Check.equal("15 to 21 do not harm undo", 0, x.program(0, 5));
        Check.equal("15 to 21 do not harm the picture", 9, x.picture(0));
    }

    private static long sum(PhoneMemory x) {
        long sum = 0;
        for (int p = 0; p < 3; p++) {
            for (int what = 0; what < 8; what++) {
                sum = sum * 31 + x.program(p, what);
            }
            sum = sum * 31 + x.picture(p);
            sum = sum * 31 + x.habit(p);
            sum = sum * 31 + x.promise(p);
            sum = sum * 31 + x.notice(p, 0);
            for (int q = 0; q < 3; q++) {
                sum = sum * 31 + x.followed(p, q);
                sum = sum * 31 + x.stateAfter(p, q);
                sum = sum * 31 + x.waitsFor(q, p, q, 2);
            }
            sum = sum * 31 + x.waitOf(p);
            sum = sum * 31 + x.whyNotShow(p);
            sum = sum * 31 + x.trimsFor(p);
        }
        for (int kind = 1; kind <= 6; kind++) {
            sum = sum * 31 + x.victim(kind);
            sum = sum * 31 + x.freed(kind);
            sum = sum * 31 + x.account(kind);
        }
        for (int what = 0; what < 9; what++) {
            sum = sum * 31 + x.size(what);
        }
        for (int k = 0; k < 24; k++) {
            sum = sum * 31 + x.log(k, 0);
        }
        return sum;
    }
}
