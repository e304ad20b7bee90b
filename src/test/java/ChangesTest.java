/** Promises 24 to 34: the changes. */
public final class ChangesTest {
    private static final String TIGHT = "phone 100;program mail 40 10 0 60 50 5 1000;program maps 50 20 5 80 40 8 100;"
            + "program song 30 0 0 30 50 3 50;";
    private static final String TWO = "phone 300;program a 40 10 0 40 50 5 9999;program b 50 20 0 50 40 8 9999;";

    public static void main(String[] args) {
        exceptions();
        promise24Show();
        promise24States();
        promise24Complaint();
        promise24Refused();
        promise24Ranks();
        promise24CacheOfItself();
        promise24Sizes();
        promise25Home();
        promise26Grow();
        promise26GrowMakesMemory();
        promise26Work();
        promise26WorkMakesMemory();
        promise26WorkOfThoseWhoRest();
        promise26WorkRefused();
        promise27Touch();
        promise28Send();
        promise29Read();
        promise30Pin();
        promise31Trim();
        promise31Refused();
        promise32Close();
        promise33SetLimit();
        promise33Steps();
        promise34SetPolicy();
        Check.end("ChangesTest");
    }

    private static void exceptions() {
        PhoneMemory x = Check.phone(TWO);
        x.home();
        for (int p : new int[] {-1, 2, 10, Integer.MIN_VALUE, Integer.MAX_VALUE}) {
            Check.noIndex("24 show " + p, () -> x.show(p));
            Check.noIndex("28 send " + p, () -> x.send(p, 1));
            Check.noIndex("28 send first " + p, () -> x.send(p, -1));
            Check.noIndex("30 pin " + p, () -> x.pin(p, true) ? 1 : 0);
            Check.noIndex("32 close " + p, () -> x.close(p));
        }
        for (int minutes : new int[] {0, -1, 241, Integer.MIN_VALUE, Integer.MAX_VALUE}) {
            Check.noArgument("26 pass " + minutes, () -> x.pass(minutes));
        }
        for (int number : new int[] {-1, 1000, Integer.MIN_VALUE, Integer.MAX_VALUE}) {
            Check.noArgument("27 touch first " + number, () -> x.touch(number));
            Check.noArgument("28 send " + number, () -> x.send(0, number));
        }
        for (int kind : new int[] {0, -1, 7, Integer.MIN_VALUE, Integer.MAX_VALUE}) {
            Check.noArgument("31 trim " + kind, () -> x.trim(kind));
        }
        for (int limit : new int[] {49, 2001, 0, -1, Integer.MIN_VALUE, Integer.MAX_VALUE}) {
            Check.noArgument("33 setLimit " + limit, () -> x.setLimit(limit));
        }
        for (int policy : new int[] {-1, 3, Integer.MIN_VALUE, Integer.MAX_VALUE}) {
            Check.noArgument("34 setPolicy " + policy, () -> x.setPolicy(policy));
        }
        for (int kind = 1; kind <= 6; kind++) {
            int step = kind;
            Check.noState("31 trim, none can have " + kind, () -> x.trim(step));
        }
        Check.noState("27 none is shown", () -> x.touch(0));
        Check.noState("29 none is shown", () -> x.read());
        Check.noState("32 it is closed", () -> x.close(1));
        Check.equal("exceptions change nothing", 1, x.size(8));
        Check.equal("exceptions take no time", 0, x.size(3));
        Check.equal("exceptions leave the limit", 300, x.size(1));
        Check.equal("exceptions leave the policy", 0, x.size(6));
        Check.equal("exceptions pin nothing", 0, x.program(0, 6));
    }

    private static void states(String when, PhoneMemory x, int... want) {
        for (int p = 0; p < want.length; p++) {
            Check.equal("state of " + p + " " + when, want[p], x.program(p, 0));
        }
    }

    private static void promise24Show() {
        PhoneMemory x = Check.phone(TIGHT);
        Check.equal("24 new", 400, x.show(0));
        states("24 shown", x, 1, 0, 0);
        Check.equal("24 shown already", 0, x.show(0));
        Check.equal("24 no second entry", -1, x.log(1, 0));
        Check.equal("24 a change, though", 2, x.size(8));
        Check.equal("24 zips", 500, x.show(1));
        states("24 the other one is zipped", x, 4, 1, 0);
        Check.equal("24 pages", 50, x.program(1, 1));
        Check.equal("24 cache", 20, x.program(1, 2));
        Check.equal("24 shown", 1, x.size(4));
        Check.equal("24 shown last", 1, x.size(5));
        Check.equal("24 zipped", 100, x.show(0));
        states("24 the cache was enough", x, 1, 2, 0);
        Check.equal("24 pages stay", 40, x.program(0, 1));
        Check.equal("24 a zipped one has no cache", 0, x.program(0, 2));
        Check.equal("24 cache dropped", 0, x.program(1, 2));
    }

    private static void promise24States() {
        PhoneMemory x = Check.phone("phone 500;program a 40 10 5 60 50 5 9999;");
        x.show(0);
        x.pass(2);
        x.home();
        Check.equal("24 resting", 20, x.show(0));
        Check.equal("24 pages of a resting one", 50, x.program(0, 1));
        Check.equal("24 cache of a resting one", 10, x.program(0, 2));
        x.home();
        x.trim(3);
        Check.equal("24 frozen", 20, x.show(0));
        Check.equal("24 pages of a frozen one", 50, x.program(0, 1));
        Check.equal("24 cache of a frozen one", 10, x.program(0, 2));
        x.home();
        x.trim(3);
        x.trim(2);
        Check.equal("24 zipped", 120, x.show(0));
        Check.equal("24 pages of a zipped one", 50, x.program(0, 1));
        Check.equal("24 cache of a zipped one", 0, x.program(0, 2));
        x.touch(8);
        x.home();
        for (int kind : new int[] {3, 2, 4}) {
            x.trim(kind);
        }
        Check.equal("24 saved", 200, x.show(0));
        Check.equal("24 pages of a saved one", 40, x.program(0, 1));
        Check.equal("24 cache of a saved one", 10, x.program(0, 2));
        Check.equal("24 picture of a saved one", 8, x.picture(0));
        x.pass(1);
        x.close(0);
        Check.equal("24 closed", 400, x.show(0));
        Check.equal("24 pages of a closed one", 40, x.program(0, 1));
        Check.equal("24 cache of a closed one", 10, x.program(0, 2));
        Check.equal("24 picture of a closed one", 0, x.picture(0));
    }

    private static void promise24Complaint() {
        PhoneMemory x = Check.phone("phone 500;program a 40 0 0 40 50 5 400;program b 40 0 0 40 50 5 399;"
                + "program c 40 0 0 40 50 5 0;costs 10 0 0 0;");
        x.show(0);
        Check.equal("24 just patience", 0, x.program(0, 4));
        x.show(1);
        Check.equal("24 more than patience", 1, x.program(1, 4));
        Check.equal("24 complaint in the log", 8, x.log(0, 0));
        Check.equal("24 showing behind it", 7, x.log(1, 0));
        x.show(2);
        x.show(0);
        x.show(2);
        Check.equal("24 no wait, no patience", 1, x.program(2, 4));
        Check.equal("24 complaints about all", 2, x.size(7));
    }

    private static void promise24Refused() {
        PhoneMemory x = Check.phone("phone 70;program a 30 5 1 40 50 5 9999;program b 40 0 0 40 50 5 9999;"
                + "program c 20 5 0 20 50 2 9999;");
        x.show(2);
        x.show(0);
        x.touch(3);
        x.pin(0, true);
        x.pass(4);
        Check.equal("24 used", 64, x.size(2));
        // a is pinned and has 34 pages, so b has not place enough, even if c is closed
        Check.noState("24 refused", () -> x.show(1));
        Check.equal("24 used as before", 64, x.size(2));
        states("24 as before", x, 1, 0, 2);
        Check.equal("24 shown as before", 0, x.size(4));
        Check.equal("24 shown last as before", 0, x.size(5));
        Check.equal("24 cache as before", 5, x.program(2, 2));
        Check.equal("24 picture as before", 3, x.picture(0));
        Check.equal("24 no entry", 7, x.log(0, 0));
        Check.equal("24 entries", 2, x.account(7) + x.account(1) + x.account(3));
        Check.equal("24 no change", 5, x.size(8));
        Check.equal("24 not followed", 0, x.followed(0, 1));
        x.pass(1);
        Check.equal("24 still shown, so it grows", 35, x.program(0, 1));
    }

    /** While memory is made, the new one counts as the one that is shown, and nothing is counted yet. */
    private static void promise24Ranks() {
        PhoneMemory x = Check.phone("phone 120;program a 30 0 0 30 50 9 9999;program b 30 0 0 30 50 9 9999;"
                + "program c 40 0 0 40 50 9 9999;program d 50 0 0 50 50 9 9999;");
        x.show(2);
        x.show(0);
        x.pass(5);
        x.show(1);
        x.pass(5);
        // Behind c came a, so the promise of a is 0 if c is the last one; b 600, d needs no place.
        x.show(0);
        x.pass(5);
        x.show(1);
        x.pass(1);
        // gaps: a 5, b 5; a rests for 1 minute: 4; c for 16 minutes: 584
        Check.equal("12 a", 0, x.promise(0));
        Check.equal("12 c", 584, x.promise(2));
        // 30 + 30 + 40 + 50 of 120: c is zipped (20), then b or a: with d shown last, b promises 5 and a 4
        Check.equal("20 a", 2, x.stateAfter(3, 0));
        Check.equal("20 b", 4, x.stateAfter(3, 1));
        Check.equal("20 c", 4, x.stateAfter(3, 2));
        Check.equal("24 new", 500, x.show(3));
        states("24 by promises", x, 2, 4, 4, 1);
        Check.equal("13 followed", 1, x.followed(1, 3));
    }

    /** By size: what a program uses behind the steps before counts. */
    private static void promise24Sizes() {
        PhoneMemory x = Check.phone("phone 130;program a 30 40 0 30 50 9 9999;program b 50 0 0 50 50 9 9999;"
                + "program c 30 0 0 30 50 9 9999;policy size;");
        x.show(0);
        x.show(1);
        // 70 + 50 + 30 of 130: the cache of a is enough
        x.show(2);
        states("24 only a cache", x, 2, 2, 1);
        x.undo();
        x.home();
        // 70 + 50 of 70: the cache of a, then b is greater than a
        Check.equal("33 cache, freeze and zip", 3, x.setLimit(70));
        states("33 b was greater then", x, 2, 4, 0);
    }

    private static void promise24CacheOfItself() {
        PhoneMemory x = Check.phone("phone 50;program a 45 10 0 45 50 5 9999;");
        Check.equal("24 with a dropped cache", 450, x.show(0));
        Check.equal("24 cache", 0, x.program(0, 2));
        Check.equal("24 showing", 7, x.log(0, 0));
        Check.equal("24 step 6", 6, x.log(1, 0));
        Check.equal("24 program of step 6", 0, x.log(1, 1));
    }

    private static void promise25Home() {
        PhoneMemory x = Check.phone(TWO);
        Check.equal("25 none", -1, x.home());
        x.show(1);
        x.pass(3);
        Check.equal("25 b", 1, x.home());
        states("25 rests", x, 0, 2);
        Check.equal("25 none is shown", -1, x.size(4));
        Check.equal("25 shown last", 1, x.size(5));
        Check.equal("25 pages stay", 50, x.program(1, 1));
        Check.equal("25 cache stays", 20, x.program(1, 2));
        x.pass(10);
        Check.equal("25 rests for 10 minutes", 590, x.promise(1));
        Check.equal("25 none any more", -1, x.home());
        Check.equal("25 all are changes", 6, x.size(8));
    }

    private static void promise26Grow() {
        PhoneMemory x = Check.phone("phone 100;program a 10 0 3 15 50 1 9999;program b 10 0 7 90 50 1 9999;");
        Check.equal("26 none is shown", 0, x.pass(240));
        Check.equal("26 time", 240, x.size(3));
        x.show(0);
        Check.equal("26 no steps", 0, x.pass(1));
        Check.equal("26 grows", 13, x.program(0, 1));
        x.pass(1);
        Check.equal("26 at most most", 15, x.program(0, 1));
        x.pass(5);
        Check.equal("26 no more", 15, x.program(0, 1));
        Check.equal("26 not refused", 0, x.account(9));
        Check.equal("26 time rises", 247, x.size(3));
        x.show(1);
        x.pass(4);
        Check.equal("26 b grows", 38, x.program(1, 1));
        Check.equal("26 a rests without work", 15, x.program(0, 1));
        x.home();
        x.pass(9);
        Check.equal("26 b rests", 38, x.program(1, 1));
    }

    private static void promise26GrowMakesMemory() {
        PhoneMemory x = Check.phone("phone 50;program a 45 0 3 60 50 1 9999;");
        x.show(0);
        x.pass(1);
        Check.equal("26 some", 48, x.program(0, 1));
        Check.equal("26 refused", 0, x.pass(3));
        Check.equal("26 not some of them", 48, x.program(0, 1));
        Check.equal("26 once a minute", 3, x.account(9));
        Check.equal("22 minute of the refused page", 4, x.log(0, 2));
        PhoneMemory y = Check.phone("phone 50;program a 40 10 3 60 50 1 9999;");
        y.show(0);
        Check.equal("26 step 6", 1, y.pass(1));
        Check.equal("26 pages", 43, y.program(0, 1));
        Check.equal("26 cache", 0, y.program(0, 2));
        Check.equal("22 step 6", 6, y.log(0, 0));
        Check.equal("22 minute of step 6", 1, y.log(0, 2));
        PhoneMemory z = Check.phone("phone 50;program a 46 4 20 99 50 1 9999;program b 1 0 0 1 50 1 9999;");
        z.show(1);
        z.show(0);
        // b is closed, as the cache of a is dropped last: freeze, zip (1), save (1), close
        states("26 before", z, 1, 0);
        Check.equal("26 refused, no step", 0, z.pass(1));
        Check.equal("26 cache stays", 4, z.program(0, 2));
        Check.equal("26 pages stay", 46, z.program(0, 1));
        Check.equal("26 no step 6", 0, z.account(6));
        Check.equal("26 refused", 1, z.account(9));
        Check.equal("26 steps counted", 5, z.account(2) + z.account(3) + z.account(4) + z.account(5) + z.account(9));
    }

    private static void promise26Work() {
        PhoneMemory x = Check.phone("phone 100;program a 10 0 0 13 50 1 9999;program b 10 0 0 10 50 1 9999;work a 3;work b 1;");
        x.show(0);
        x.pass(6);
        Check.equal("26 shown, no work", 10, x.program(0, 1));
        x.pass(2);
        x.show(1);
        x.pass(2);
        Check.equal("26 2 minutes", 10, x.program(0, 1));
        x.pass(1);
        Check.equal("26 3 minutes", 11, x.program(0, 1));
        x.pass(2);
        Check.equal("26 5 minutes", 11, x.program(0, 1));
        x.pass(1);
        Check.equal("26 6 minutes", 12, x.program(0, 1));
        x.pass(30);
        Check.equal("26 most", 13, x.program(0, 1));
        x.home();
        x.pass(9);
        Check.equal("26 b has most already", 10, x.program(1, 1));
        Check.equal("26 nothing refused", 0, x.account(9));
        x.show(0);
        x.show(1);
        PhoneMemory y = Check.phone("phone 100;program a 10 0 0 90 50 1 9999;work a 3;");
        y.show(0);
        y.home();
        y.pass(2);
        y.show(0);
        y.home();
        y.pass(2);
        Check.equal("26 began to rest anew", 10, y.program(0, 1));
        y.pass(1);
        Check.equal("26 3 minutes since then", 11, y.program(0, 1));
        y.trim(3);
        y.pass(9);
        Check.equal("26 frozen, no work", 11, y.program(0, 1));
        y.trim(2);
        y.pass(9);
        Check.equal("26 zipped, no work", 11, y.program(0, 1));
    }

    /** By size: a gets its page, b is zipped for it and gets none. */
    private static void promise26WorkMakesMemory() {
        PhoneMemory x = Check.phone("phone 50;program a 20 0 0 90 50 1 9999;program b 30 0 0 90 50 1 9999;"
                + "work a 1;work b 1;policy size;");
        x.show(0);
        x.show(1);
        x.home();
        Check.equal("26 freeze and zip", 2, x.pass(1));
        Check.equal("26 a has its page", 21, x.program(0, 1));
        Check.equal("26 b has none", 30, x.program(1, 1));
        states("26 b is zipped", x, 2, 4);
        PhoneMemory y = Check.phone("phone 50;program a 30 0 0 90 50 1 9999;program b 20 0 0 90 50 1 9999;"
                + "work a 1;work b 1;policy size;");
        y.show(0);
        y.show(1);
        y.home();
        Check.equal("26 freeze and zip itself", 2, y.pass(1));
        Check.equal("26 a has its page, zipped", 31, y.program(0, 1));
        Check.equal("26 a uses", 16, y.program(0, 3));
        Check.equal("26 b has its page", 21, y.program(1, 1));
        states("26 a is zipped", y, 4, 2);
        Check.equal("26 nothing refused", 0, y.account(9));
        // the page counts in the rank: a has 26 of 51 then
        PhoneMemory z = Check.phone("phone 50;program a 25 0 0 90 50 1 9999;program b 25 0 0 90 50 1 9999;"
                + "work b 1;policy size;");
        z.show(0);
        z.show(1);
        z.home();
        z.pass(1);
        states("26 b was greater", z, 2, 4);
    }

    /** The shown one comes first, and what it freezes does not work in this minute. */
    private static void promise26WorkOfThoseWhoRest() {
        PhoneMemory x = Check.phone("phone 50;program a 20 0 0 90 50 1 9999;program b 30 0 1 90 50 1 9999;work a 1;");
        x.show(0);
        x.show(1);
        Check.equal("26 freeze and zip for the shown one", 2, x.pass(1));
        Check.equal("26 the shown one has its page", 31, x.program(1, 1));
        Check.equal("26 the zipped one has none", 20, x.program(0, 1));
        states("26 zipped", x, 4, 1);
        Check.equal("26 it needs no steps any more", 0, x.pass(9));
        // 40 + 10 of 50: one page more, and a is saved (1)
        Check.equal("26 the next step", 1, x.pass(1));
        states("26 saved", x, 5, 1);
    }

    private static void promise26WorkRefused() {
        PhoneMemory x = Check.phone("phone 50;program a 20 0 0 90 50 1 9999;program b 30 0 0 90 50 1 9999;"
                + "work a 2;work b 1;");
        x.show(1);
        x.show(0);
        x.home();
        x.pin(0, true);
        x.pin(1, true);
        Check.equal("26 refused", 0, x.pass(2));
        Check.equal("26 a has none", 20, x.program(0, 1));
        Check.equal("26 b has none", 30, x.program(1, 1));
        Check.equal("26 refused pages", 3, x.account(9));
        int[] programs = {1, 0, 1};
        int[] minutes = {2, 2, 1};
        for (int k = 0; k < 3; k++) {
            Check.equal("22 kind " + k, 9, x.log(k, 0));
            Check.equal("22 program " + k, programs[k], x.log(k, 1));
            Check.equal("22 minute " + k, minutes[k], x.log(k, 2));
        }
    }

    private static void promise27Touch() {
        PhoneMemory x = Check.phone(TWO);
        x.show(1);
        Check.equal("27 least", 0, x.touch(0));
        Check.equal("27 greatest", 999, x.touch(999));
        Check.equal("27 next", 31 * 999 + 2, x.touch(2));
        Check.equal("27 picture", 31 * 999 + 2, x.picture(1));
        Check.equal("27 of the other one", 0, x.picture(0));
        x.home();
        Check.noState("27 none is shown", () -> x.touch(5));
        Check.equal("27 picture stays", 31 * 999 + 2, x.picture(1));
    }

    private static void promise28Send() {
        PhoneMemory x = Check.phone(TWO);
        Check.equal("28 closed", 0, x.send(0, 5));
        Check.equal("28 lost", -1, x.notice(0, 0));
        Check.equal("28 a change, though", 1, x.size(8));
        x.show(0);
        Check.equal("28 shown", 0, x.send(0, 5));
        Check.equal("28 taken in", 5, x.picture(0));
        x.home();
        for (int i = 1; i <= 5; i++) {
            Check.equal("28 waits " + i, i, x.send(0, i * 100));
        }
        Check.equal("28 picture stays", 5, x.picture(0));
        Check.equal("28 a sixth one", 5, x.send(0, 999));
        Check.equal("28 the first one is lost", 200, x.notice(0, 0));
        Check.equal("28 the last one", 999, x.notice(0, 4));
        x.trim(3);
        x.send(0, 0);
        x.trim(2);
        x.send(0, 1);
        x.trim(4);
        x.send(0, 2);
        Check.equal("28 frozen", 0, x.notice(0, 2));
        Check.equal("28 zipped", 1, x.notice(0, 3));
        Check.equal("28 saved", 2, x.notice(0, 4));
        x.show(0);
        Check.equal("28 shown, with others that wait", 5, x.send(0, 7));
        Check.equal("28 taken in at once", 5 * 31 + 7, x.picture(0));
        Check.equal("28 the others stay", 500, x.notice(0, 0));
    }

    private static void promise29Read() {
        PhoneMemory x = Check.phone(TWO);
        x.show(0);
        Check.noState("29 none waits", () -> x.read());
        x.show(1);
        x.send(0, 6);
        x.send(0, 8);
        Check.noState("29 waits for another one", () -> x.read());
        x.show(0);
        Check.equal("29 first", 6, x.read());
        Check.equal("29 one is left", 1, x.program(0, 5));
        Check.equal("29 second", 194, x.read());
        Check.equal("29 none is left", 0, x.program(0, 5));
        int changes = x.size(8);
        Check.noState("29 none any more", () -> x.read());
        Check.equal("29 no change", changes, x.size(8));
        x.home();
        x.send(0, 1);
        Check.noState("29 none is shown", () -> x.read());
    }

    private static void promise30Pin() {
        PhoneMemory x = Check.phone(TIGHT);
        Check.equal("30 first", false, x.pin(0, true));
        Check.equal("30 twice", true, x.pin(0, true));
        Check.equal("30 pinned", 1, x.program(0, 6));
        Check.equal("30 the other one", 0, x.program(1, 6));
        Check.equal("30 closed stays closed", 0, x.program(0, 0));
        x.show(0);
        x.home();
        Check.noState("30 no freezing", () -> x.trim(3));
        Check.equal("30 its cache, though", 0, x.trim(1));
        Check.equal("30 off", true, x.pin(0, false));
        Check.equal("30 off twice", false, x.pin(0, false));
        x.trim(3);
        x.pin(0, true);
        Check.equal("30 frozen stays frozen", 3, x.program(0, 0));
        Check.equal("30 all are changes", 9, x.size(8));
        x.show(0);
        x.close(0);
        Check.equal("30 closed and still pinned", 1, x.program(0, 6));
    }

    private static void promise31Trim() {
        PhoneMemory x = Check.phone("phone 300;program a 40 10 0 40 50 5 9999;program b 50 20 0 50 40 8 9999;");
        x.show(0);
        x.show(1);
        Check.equal("31 step 6", 1, x.trim(6));
        Check.equal("31 cache of the shown one", 0, x.program(1, 2));
        Check.equal("31 step 1", 0, x.trim(1));
        Check.equal("31 cache", 0, x.program(0, 2));
        states("31 no state alters", x, 2, 1);
        Check.equal("31 step 3", 0, x.trim(3));
        states("31 frozen", x, 3, 1);
        Check.equal("31 step 2", 0, x.trim(2));
        states("31 zipped", x, 4, 1);
        x.send(0, 4);
        Check.equal("31 step 4", 0, x.trim(4));
        states("31 saved", x, 5, 1);
        Check.equal("31 notice stays", 4, x.notice(0, 0));
        Check.equal("31 step 5", 0, x.trim(5));
        states("31 closed", x, 0, 1);
        int[] kinds = {5, 4, 2, 3, 1, 6, 7};
        int[] programs = {0, 0, 0, 0, 0, 1, 1};
        for (int k = 0; k < 7; k++) {
            Check.equal("31 kind of entry " + k, kinds[k], x.log(k, 0));
            Check.equal("31 program of entry " + k, programs[k], x.log(k, 1));
        }
        x.show(0);
        x.trim(3);
        Check.equal("31 zips the cache away", 1, x.trim(2));
        Check.equal("31 uses", 20, x.program(1, 3));
        // a frozen one that has its cache loses it when it is zipped
        x.show(1);
        x.trim(3);
        Check.equal("31 cache of a frozen one", 10, x.program(0, 2));
        x.trim(2);
        Check.equal("31 cache of a zipped one", 0, x.program(0, 2));
    }

    private static void promise31Refused() {
        PhoneMemory x = Check.phone("phone 50;program a 50 0 0 50 10 50 9999;program b 45 0 0 45 50 1 9999;");
        x.show(0);
        x.show(1);
        states("31 before", x, 4, 1);
        Check.equal("31 just full", 50, x.size(2));
        int changes = x.size(8);
        Check.equal("31 would take more", -45, x.freed(4));
        Check.noState("31 refused", () -> x.trim(4));
        states("31 as before", x, 4, 1);
        Check.equal("31 uses as before", 50, x.size(2));
        Check.equal("31 no entry", 0, x.account(4));
        Check.equal("31 no change", changes, x.size(8));
        x.setLimit(95);
        Check.equal("31 just fits", 0, x.trim(4));
        Check.equal("31 full again", 95, x.size(2));
    }

    private static void promise32Close() {
        PhoneMemory x = Check.phone("phone 300;program a 40 10 5 60 50 7 9999;program b 50 20 0 50 40 8 9999;");
        x.show(0);
        x.pass(2);
        x.touch(9);
        x.pin(0, true);
        Check.equal("32 shown and pinned", 60, x.close(0));
        Check.equal("32 closed", 0, x.program(0, 0));
        Check.equal("32 uses", 0, x.size(2));
        Check.equal("32 none is shown", -1, x.size(4));
        Check.equal("32 shown last", 0, x.size(5));
        Check.equal("32 picture", 0, x.picture(0));
        Check.equal("32 pages", 0, x.program(0, 1));
        Check.equal("32 cache", 0, x.program(0, 2));
        Check.equal("32 no entry", 7, x.log(0, 0));
        Check.noState("32 closed already", () -> x.close(0));
        Check.equal("32 no change", 5, x.size(8));
        x.pass(30);
        Check.equal("32 not shown since then", 570, x.promise(0));
        x.pin(0, false);
        x.show(0);
        Check.equal("32 gap since then", 30, x.habit(0));
        x.show(1);
        x.send(0, 3);
        Check.equal("32 resting", 50, x.close(0));
        Check.equal("32 no notices", 0, x.program(0, 5));
        Check.equal("32 the other one stays", 1, x.size(4));
        x.show(0);
        x.home();
        x.trim(3);
        x.trim(3);
        x.trim(2);
        x.trim(2);
        Check.equal("32 zipped", 20, x.close(0));
        x.trim(4);
        Check.equal("32 saved", 8, x.close(1));
    }

    private static void promise33SetLimit() {
        PhoneMemory x = Check.phone(TIGHT);
        Check.equal("33 least", 0, x.setLimit(50));
        Check.equal("33 it is set", 50, x.size(1));
        Check.equal("33 greatest", 0, x.setLimit(2000));
        x.show(0);
        x.show(1);
        x.show(2);
        Check.equal("33 used", 150, x.size(2));
        Check.equal("33 just enough", 0, x.setLimit(150));
        Check.equal("33 one cache", 1, x.setLimit(149));
        Check.equal("33 the smallest number of the same rank", 0, x.program(0, 2));
        Check.equal("33 entry", 1, x.log(0, 0));
        Check.equal("33 the other cache, freeze and zip", 3, x.setLimit(100));
        states("33 zipped", x, 4, 2, 1);
        x.pin(0, true);
        x.pin(1, true);
        int changes = x.size(8);
        Check.noState("33 refused", () -> x.setLimit(99));
        Check.equal("33 as before", 100, x.size(1));
        Check.equal("33 no change", changes, x.size(8));
        x.pin(0, false);
        Check.equal("33 saved and closed", 2, x.setLimit(80));
        states("33 closed", x, 0, 2, 1);
    }

    /** Saving can take more; the next steps bring it down again. */
    private static void promise33Steps() {
        PhoneMemory x = Check.phone("phone 60;program a 50 0 0 50 10 50 9999;program b 45 0 0 45 50 1 9999;");
        x.show(0);
        x.show(1);
        states("33 before", x, 4, 1);
        x.home();
        x.pin(1, true);
        Check.equal("33 50 of 60", 50, x.size(2));
        x.setLimit(50);
        x.pin(1, false);
        x.show(0);
        // a needs 50: b is frozen, zipped (23), saved (1), closed
        states("33 all of it", x, 1, 0);
        // what is shown can lose its cache: step 6 comes last
        PhoneMemory y = Check.phone("phone 100;program a 40 30 0 40 50 5 9999;program b 20 10 0 20 50 1 9999;");
        y.show(1);
        y.show(0);
        Check.equal("33 to 90", 1, y.setLimit(90));
        Check.equal("33 to 80", 2, y.setLimit(80));
        Check.equal("33 to 71", 1, y.setLimit(71));
        Check.equal("33 to 70", 1, y.setLimit(70));
        Check.equal("33 cache of the shown one is there", 30, y.program(0, 2));
        Check.equal("33 to 69", 1, y.setLimit(69));
        Check.equal("33 step 6", 6, y.log(0, 0));
        states("33 in the end", y, 1, 0);
    }

    private static void promise34SetPolicy() {
        PhoneMemory x = Check.phone(TWO + "policy recent;");
        Check.equal("34 from recent", 2, x.setPolicy(0));
        Check.equal("34 from promise", 0, x.setPolicy(1));
        Check.equal("34 from size", 1, x.setPolicy(1));
        Check.equal("34 size again", 1, x.size(6));
        Check.equal("34 all are changes", 3, x.size(8));
        x.show(0);
        x.show(1);
        x.pass(1);
        x.show(0);
        x.home();
        Check.equal("34 by size", 1, x.victim(3));
        x.setPolicy(2);
        Check.equal("34 by recent, the same", 0, x.victim(3));
        x.pass(1);
        x.show(1);
        x.home();
        Check.equal("34 by recent", 0, x.victim(3));
        x.setPolicy(1);
        Check.equal("34 by size again", 1, x.victim(3));
    }
}
