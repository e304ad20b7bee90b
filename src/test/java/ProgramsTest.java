/** Promises 7 to 14: what a program is, and its habits. */
public final class ProgramsTest {
    private static final String TWO = "phone 300;program a 40 10 3 60 33 5 0;program b 50 20 0 80 40 8 9999;";
    private static final String THREE = "phone 2000;program a 10 0 0 10 50 1 9999;program b 20 0 0 20 50 1 9999;"
            + "program c 30 0 0 30 50 1 9999;";

    public static void main(String[] args) {
        promise7Exceptions();
        promise7States();
        promise7Precious();
        promise8Told();
        promise9Picture();
        promise9Closed();
        promise10Notice();
        promise11Habit();
        promise11WhatIsNoGap();
        promise12Promise();
        promise12Half();
        promise12Last();
        promise13Followed();
        promise14Likeliest();
        Check.end("ProgramsTest");
    }

    private static void properties(String when, PhoneMemory x, int program, int... want) {
        for (int what = 0; what < want.length; what++) {
            Check.equal("7 program " + program + ", " + what + " " + when, want[what], x.program(program, what));
        }
    }

    private static void promise7Exceptions() {
        PhoneMemory x = Check.phone(TWO);
        int[] missing = {-1, 2, 10, Integer.MIN_VALUE, Integer.MAX_VALUE};
        for (int p : missing) {
            Check.noIndex("7 program " + p, () -> x.program(p, 0));
            Check.noIndex("7 program first " + p, () -> x.program(p, 8));
            Check.noIndex("8 told " + p, () -> x.told(p, 0));
            Check.noIndex("8 told first " + p, () -> x.told(p, -1));
            Check.noIndex("9 picture " + p, () -> x.picture(p));
            Check.noIndex("10 notice " + p, () -> x.notice(p, 0));
            Check.noIndex("11 habit " + p, () -> x.habit(p));
            Check.noIndex("12 promise " + p, () -> x.promise(p));
            Check.noIndex("13 followed " + p, () -> x.followed(p, 0));
            Check.noIndex("13 following " + p, () -> x.followed(0, p));
            Check.noIndex("14 likeliest " + p, () -> x.likeliest(p));
        }
        int[] wrong = {-1, 8, Integer.MIN_VALUE, Integer.MAX_VALUE};
        for (int what : wrong) {
            Check.noArgument("7 what " + what, () -> x.program(0, what));
            Check.noArgument("8 what " + what, () -> x.told(1, what));
        }
    }

    private static void promise7States() {
        PhoneMemory x = Check.phone(TWO);
        properties("at first", x, 0, 0, 0, 0, 0, 0, 0, 0, 0);
        x.show(0);
        properties("shown", x, 0, 1, 40, 10, 50, 1, 0, 0, 1);
        x.pass(4);
        properties("grown", x, 0, 1, 52, 10, 62, 1, 0, 0, 1);
        x.show(1);
        properties("shown", x, 1, 1, 50, 20, 70, 0, 0, 0, 0);
        x.send(0, 5);
        x.send(0, 6);
        x.pin(0, true);
        properties("resting", x, 0, 2, 52, 10, 62, 1, 2, 1, 1);
        x.pin(0, false);
        x.trim(3);
        properties("frozen", x, 0, 3, 52, 10, 62, 1, 2, 0, 1);
        x.trim(2);
        properties("zipped", x, 0, 4, 52, 0, 18, 1, 2, 0, 1);
        x.trim(4);
        properties("saved", x, 0, 5, 0, 0, 5, 1, 2, 0, 1);
        x.pin(0, true);
        x.close(0);
        properties("closed", x, 0, 0, 0, 0, 0, 1, 0, 1, 1);
        x.show(0);
        properties("shown again", x, 0, 1, 40, 10, 50, 2, 0, 1, 1);
        // ratio 33 of 3 * 33 + 1 = 100 pages would be 33 without the 99
        PhoneMemory y = Check.phone("phone 300;program a 100 0 0 100 33 5 0;program b 1 0 0 1 10 1 0;program c 10 0 0 10 100 1 0;");
        for (int p = 0; p < 3; p++) {
            y.show(p);
        }
        y.home();
        for (int i = 0; i < 3; i++) {
            y.trim(3);
            y.trim(2);
        }
        properties("exactly", y, 0, 4, 100, 0, 33);
        properties("rounded up", y, 1, 4, 1, 0, 1);
        properties("of 100 percent", y, 2, 4, 10, 0, 10);
    }

    private static void promise7Precious() {
        PhoneMemory x = Check.phone("phone 300;costs 10 2 5 99;program a 40 10 3 60 33 5 98;");
        x.pass(3);
        x.show(0);
        x.pass(59);
        Check.equal("7 precious in minute m + 59", 1, x.program(0, 7));
        x.pass(1);
        Check.equal("7 precious in minute m + 60", 0, x.program(0, 7));
        x.home();
        x.show(0);
        Check.equal("7 complaints", 2, x.program(0, 4));
        Check.equal("7 precious again", 1, x.program(0, 7));
        x.pass(30);
        x.close(0);
        Check.equal("7 precious and closed", 1, x.program(0, 7));
        x.show(0);
        x.pass(59);
        Check.equal("7 the latest complaint counts", 1, x.program(0, 7));
        x.pass(1);
        Check.equal("7 not precious any more", 0, x.program(0, 7));
        Check.equal("7 complaints stay", 3, x.program(0, 4));
    }

    private static void promise8Told() {
        PhoneMemory x = Check.phone(TWO + "work b 7;");
        x.show(0);
        x.pass(10);
        int[] a = {40, 10, 3, 60, 33, 5, 0, 0};
        int[] b = {50, 20, 0, 80, 40, 8, 9999, 7};
        for (int what = 0; what < 8; what++) {
            Check.equal("8 told 0, " + what, a[what], x.told(0, what));
            Check.equal("8 told 1, " + what, b[what], x.told(1, what));
        }
    }

    private static void promise9Picture() {
        PhoneMemory x = Check.phone(TWO);
        Check.equal("9 closed", 0, x.picture(0));
        x.show(0);
        Check.equal("9 new", 0, x.picture(0));
        x.touch(5);
        x.send(0, 7);
        Check.equal("9 taken in", 162, x.picture(0));
        Check.equal("9 the other one", 0, x.picture(1));
        x.show(1);
        x.send(0, 9);
        Check.equal("9 resting", 162, x.picture(0));
        for (int kind : new int[] {3, 2, 4}) {
            x.trim(kind);
            Check.equal("9 behind step " + kind, 162, x.picture(0));
        }
        x.show(0);
        Check.equal("9 shown again", 162, x.picture(0));
        x.read();
        Check.equal("9 read", 5031, x.picture(0));
        int picture = 5031;
        for (int i = 0; i < 12; i++) {
            x.touch(999 - i);
            picture = 31 * picture + 999 - i;
            Check.equal("9 arithmetic of int " + i, picture, x.picture(0));
        }
    }

    private static void promise9Closed() {
        PhoneMemory x = Check.phone(TWO);
        x.show(0);
        x.touch(5);
        x.close(0);
        Check.equal("9 behind close", 0, x.picture(0));
        x.show(0);
        Check.equal("9 shown behind close", 0, x.picture(0));
        x.touch(6);
        x.home();
        x.send(0, 1);
        for (int kind : new int[] {3, 2, 4, 5}) {
            x.trim(kind);
        }
        Check.equal("9 behind step 5", 0, x.picture(0));
        x.show(0);
        Check.equal("9 shown behind step 5", 0, x.picture(0));
        Check.equal("10 none behind step 5", 0, x.program(0, 5));
    }

    private static void promise10Notice() {
        PhoneMemory x = Check.phone(TWO);
        x.show(0);
        x.show(1);
        Check.equal("10 none", -1, x.notice(0, 0));
        x.show(0);
        x.send(1, 500);
        x.send(1, 501);
        x.show(1);
        for (int i = 1; i <= 7; i++) {
            x.send(0, 10 * i);
        }
        int[] want = {30, 40, 50, 60, 70, -1};
        for (int k = 0; k < 6; k++) {
            Check.equal("10 notice " + k, want[k], x.notice(0, k));
        }
        Check.equal("10 notice -1", -1, x.notice(0, -1));
        Check.equal("10 smallest", -1, x.notice(0, Integer.MIN_VALUE));
        Check.equal("10 greatest", -1, x.notice(0, Integer.MAX_VALUE));
        Check.equal("10 of the other one", 500, x.notice(1, 0));
        Check.equal("10 the other one reads", 500, x.read());
        Check.equal("10 the other one reads on", 31 * 500 + 501, x.read());
        Check.equal("10 the other one has no more", -1, x.notice(1, 0));
        x.show(0);
        Check.equal("10 shown, not read", 30, x.notice(0, 0));
        x.read();
        Check.equal("10 first behind read", 40, x.notice(0, 0));
        Check.equal("10 last behind read", 70, x.notice(0, 3));
        Check.equal("10 behind the last", -1, x.notice(0, 4));
        x.close(0);
        Check.equal("10 closed", -1, x.notice(0, 0));
    }

    private static void showAfter(PhoneMemory x, int program, int minutes) {
        x.home();
        if (minutes > 0) {
            x.pass(minutes);
        }
        x.show(program);
    }

    private static void promise11Habit() {
        PhoneMemory x = Check.phone(THREE);
        Check.equal("11 never shown", 600, x.habit(0));
        x.show(0);
        Check.equal("11 no gap", 600, x.habit(0));
        x.pass(10);
        int[] gaps = {5, 8, 1, 2, 100, 0, 7, 10, 3, 20, 40};
        int[] want = {5, 6, 4, 4, 27, 25, 27, 29, 5, 10, 18};
        for (int i = 0; i < gaps.length; i++) {
            showAfter(x, 0, gaps[i]);
            Check.equal("11 behind gap " + gaps[i], want[i], x.habit(0));
            x.pass(3);
            Check.equal("11 time alters nothing", want[i], x.habit(0));
        }
        Check.equal("11 of another one", 600, x.habit(1));
        PhoneMemory y = Check.phone(THREE);
        y.show(0);
        showAfter(y, 0, 0);
        Check.equal("11 gap of 0", 0, y.habit(0));
        PhoneMemory z = Check.phone(THREE);
        for (int i = 1; i <= 5; i++) {
            for (int p = 0; p < 3; p++) {
                z.show(p);
                z.pass(i * (p + 1));
            }
        }
        Check.equal("11 habit of a", (5 + 10 + 15 + 20) / 4, z.habit(0));
        Check.equal("11 habit of b", (5 + 9 + 13 + 17) / 4, z.habit(1));
        Check.equal("11 habit of c", (6 + 9 + 12 + 15) / 4, z.habit(2));
    }

    private static void promise11WhatIsNoGap() {
        PhoneMemory x = Check.phone("phone 50;program a 40 0 0 40 50 1 9999;program b 20 0 0 20 50 1 9999;");
        x.show(0);
        x.pass(5);
        x.show(0);
        Check.equal("11 it is shown already", 600, x.habit(0));
        x.close(0);
        x.pass(4);
        x.show(1);
        x.pin(1, true);
        x.pass(3);
        Check.noState("11 refused", () -> x.show(0));
        Check.equal("11 refused, no gap", 600, x.habit(0));
        x.pin(1, false);
        x.show(0);
        Check.equal("11 gap since close", 7, x.habit(0));
    }

    private static void promise12Promise() {
        PhoneMemory x = Check.phone(THREE);
        Check.equal("12 never shown", 600, x.promise(0));
        x.pass(20);
        Check.equal("12 still never shown", 600, x.promise(0));
        x.show(0);
        Check.equal("12 shown", 0, x.promise(0));
        x.home();
        Check.equal("12 rests from now on", 600, x.promise(0));
        x.pass(240);
        Check.equal("12 later", 360, x.promise(0));
        x.pass(240);
        x.pass(119);
        Check.equal("12 nearly", 1, x.promise(0));
        x.pass(1);
        Check.equal("12 now", 0, x.promise(0));
        x.pass(1);
        Check.equal("12 not below 0", 0, x.promise(0));
        x.show(0);
        x.pass(9);
        x.home();
        x.pass(40);
        Check.equal("12 habit less minutes", 561, x.promise(0));
        x.close(0);
        Check.equal("12 closed", 561, x.promise(0));
    }

    private static void promise12Half() {
        PhoneMemory x = Check.phone(THREE);
        x.show(0);
        x.show(1);
        Check.equal("12 none followed 1", 600, x.promise(0));
        x.show(0);
        Check.equal("12 1 of 1", 0, x.promise(1));
        x.show(2);
        x.show(0);
        x.pass(5);
        Check.equal("12 1 of 2", 0, x.promise(1));
        Check.equal("12 the other 1 of 2", 0, x.promise(2));
        x.show(1);
        x.show(0);
        Check.equal("12 2 of 3", 0, x.promise(1));
        Check.equal("12 1 of 3", 595, x.promise(2));
        Check.equal("12 1 of 3, no gap yet", 600, x.habit(2));
        x.show(2);
        x.show(0);
        Check.equal("12 2 of 4", 0, x.promise(2));
        Check.equal("12 the other 2 of 4", 0, x.promise(1));
        PhoneMemory y = Check.phone(THREE);
        for (int program : new int[] {2, 0, 2, 0, 2, 1, 2}) {
            y.show(program);
        }
        Check.equal("12 a, 2 of 3", 0, y.promise(0));
        Check.equal("12 b, 1 of 3", 600, y.promise(1));
    }

    private static void promise12Last() {
        PhoneMemory x = Check.phone(THREE);
        x.show(0);
        x.pass(2);
        x.show(1);
        x.pass(3);
        x.show(0);
        x.home();
        Check.equal("12 the last one rests", 0, x.promise(1));
        Check.equal("12 the last one itself", 3, x.promise(0));
        x.close(0);
        Check.equal("12 the last one is closed", 0, x.promise(1));
        x.close(1);
        Check.equal("12 both are closed", 0, x.promise(1));
        x.show(2);
        Check.equal("12 another one is the last", 600, x.promise(1));
    }

    private static void promise13Followed() {
        PhoneMemory x = Check.phone("phone 50;program a 10 0 0 10 50 1 9999;program b 20 0 0 20 50 1 9999;"
                + "program c 51 0 0 51 50 1 9999;");
        x.show(0);
        x.show(1);
        Check.equal("13 once", 1, x.followed(0, 1));
        Check.equal("13 not backwards", 0, x.followed(1, 0));
        x.show(1);
        Check.equal("13 shown already", 0, x.followed(1, 1));
        Check.noState("13 refused", () -> x.show(2));
        Check.equal("13 refused, not followed", 0, x.followed(1, 2));
        x.home();
        x.show(1);
        Check.equal("13 itself", 0, x.followed(1, 1));
        x.home();
        x.pass(5);
        x.show(0);
        Check.equal("13 behind home", 1, x.followed(1, 0));
        x.close(0);
        x.show(1);
        Check.equal("13 behind close", 2, x.followed(0, 1));
        Check.equal("13 first itself", 0, x.followed(0, 0));
    }

    private static void promise14Likeliest() {
        PhoneMemory x = Check.phone(THREE);
        Check.equal("14 none", -1, x.likeliest(0));
        x.show(0);
        x.show(2);
        Check.equal("14 the only one", 2, x.likeliest(0));
        Check.equal("14 none followed 2", -1, x.likeliest(2));
        x.show(0);
        x.show(1);
        Check.equal("14 as often, the smallest number", 1, x.likeliest(0));
        x.show(0);
        x.show(2);
        Check.equal("14 more often", 2, x.likeliest(0));
        Check.equal("14 of 1", 0, x.likeliest(1));
        Check.equal("14 of 2", 0, x.likeliest(2));
    }
}
