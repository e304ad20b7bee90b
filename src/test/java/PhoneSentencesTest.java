import java.util.ArrayList;
import java.util.List;

/**
 * The sentences of PROGRAMS, HABITS, TRIMS, SHOWING and A MINUTE that name a boundary case: a test each, which quotes its
 * sentence. Each object is asked at most 512 times, as more is not promised.
 */
public final class PhoneSentencesTest {
    private static final int CLOSED = 0;
    private static final int SHOWN = 1;
    private static final int RESTING = 2;
    private static final int FROZEN = 3;
    private static final int ZIPPED = 4;
    private static final int SAVED = 5;

    public static void main(String[] args) {
        divisionsTruncate();
        call512();
        atMostOneIsShown();
        allAreClosedAtFirst();
        usesByState();
        usesZipped();
        neverMoreThanLimit();
        neverMoreThanLimitInRuns();
        pictureOfAClosedOne();
        noNoticesIfClosed();
        gapSinceTheEnd();
        noGapIfNeverShown();
        noGapIfShownAlready();
        latestFourGaps();
        gapsOfTenPrograms();
        habitWithoutGaps();
        followsWhateverTheState();
        followsOnlyAnother();
        promiseOfTheShownOne();
        promiseOfFollowers();
        promiseAtLeast0();
        promiseNeverShown();
        step1();
        step2();
        step3();
        step4();
        step5();
        step6();
        greatestRank();
        smallestNumber();
        rankBySizeIsWhatItUses();
        preciousComeLast();
        preciousFor60Minutes();
        smallestKindFirst();
        fortySixSteps();
        refusedIfNoStepIsLeft();
        theShownOneRests();
        pagesOfTheShownOne();
        promisesWhileShowing();
        countedOnlyIfNotRefused();
        asBeforeIfRefused();
        waitByState();
        complaintIfGreater();
        timeRises();
        growsUpToMost();
        growsJustToTheLimit();
        growsByStep6();
        growthRefused();
        workAtMultiples();
        workUpToMost();
        workJustToTheLimit();
        workRefused();
        workOfThoseWhoDoNotRest();
        workByAscendingNumbers();
        Check.end("PhoneSentencesTest");
    }

    /** No other program may be able to have the steps that are needed. */
    private static void bring(PhoneMemory x, int program, int state) {
        x.show(program);
        if (state == CLOSED) {
            x.close(program);
        } else if (state != SHOWN) {
            x.home();
        }
        if (state >= FROZEN) {
            x.trim(3);
        }
        if (state >= ZIPPED) {
            x.trim(2);
        }
        if (state == SAVED) {
            x.trim(4);
        }
        Check.equal("brought to", state, x.program(program, 0));
    }

    private static void states(String when, PhoneMemory x, int... want) {
        for (int p = 0; p < want.length; p++) {
            Check.equal("state of " + p + " " + when, want[p], x.program(p, 0));
        }
    }

    private static String programs(int count, String numbers) {
        StringBuilder text = new StringBuilder();
        for (int p = 0; p < count; p++) {
            text.append("program ").append((char) ('a' + p)).append(' ').append(numbers).append(';');
        }
        return text.toString();
    }

    private static void divisionsTruncate() {
        Check.sentence("All numbers are integers; all divisions truncate.");
        int[][] rows = {{5, 8, 6}, {0, 1, 0}, {1, 2, 1}, {239, 240, 239}};
        for (int[] row : rows) {
            PhoneMemory x = Check.phone("phone 2000;program a 13 0 0 13 31 1 9999;");
            x.show(0);
            for (int i = 0; i < 2; i++) {
                x.home();
                if (row[i] > 0) {
                    x.pass(row[i]);
                }
                x.show(0);
            }
            Check.equal("gaps of " + row[0] + " and " + row[1], row[2], x.habit(0));
        }
        PhoneMemory y = Check.phone("phone 2000;program a 13 0 0 13 31 1 9999;");
        bring(y, 0, ZIPPED);
        // 4.03 pages and 99 hundredths
        Check.equal("13 pages by ratio 31", 5, y.program(0, 3));
    }

    /** Each text takes two calls of append and one of parse. */
    private static void call512() {
        Check.sentence("An object is used for at most 512 calls after it has been made;");
        PhoneMemory x = Check.phone("phone 50;program a 1 0 0 1 10 1 9;");
        x.show(0);
        x.home();
        for (int call = 6; call <= 510; call++) {
            x.pass(240);
        }
        x.show(0);
        Check.equal("the 512th call, a gap of 505 * 240 minutes", 121200, x.habit(0));
        PhoneMemory y = Check.phone("phone 50;program a 50 0 1 60 50 1 0;");
        y.show(0);
        for (int call = 5; call <= 511; call++) {
            y.pass(240);
        }
        Check.equal("the 512th call, 507 * 240 refused pages", 121680, y.account(9));
    }

    // ---- PROGRAMS

    private static void atMostOneIsShown() {
        Check.sentence("At most one is shown.");
        PhoneMemory x = Check.phone("phone 2000;" + programs(10, "10 0 0 10 50 1 9999"));
        for (int p = 9; p >= 0; p--) {
            x.show(p);
            for (int q = 0; q < 10; q++) {
                Check.equal("state of " + q + " behind show of " + p, q == p ? SHOWN : q > p ? RESTING : CLOSED, x.program(q, 0));
            }
            Check.equal("shown", p, x.size(4));
        }
        x.home();
        for (int q = 0; q < 10; q++) {
            Check.equal("state of " + q + " behind home", RESTING, x.program(q, 0));
        }
    }

    private static void allAreClosedAtFirst() {
        Check.sentence("At first, at minute 0, all are closed.");
        PhoneMemory x = Check.phone("phone 2000;" + programs(10, "10 5 1 20 50 1 0"));
        Check.equal("minute", 0, x.size(3));
        for (int p = 0; p < 10; p++) {
            for (int what = 0; what < 8; what++) {
                Check.equal("property " + what + " of " + p, 0, x.program(p, what));
            }
        }
    }

    private static void usesByState() {
        Check.sentence("what it USES is: nothing if it is closed; its pages and those of its cache if it is shown, resting or "
            + "frozen; (pages * ratio + 99) / 100 if it is zipped; screen if it is saved.");
        int[] uses = {0, 20, 20, 20, 5, 9};
        int[] pages = {0, 13, 13, 13, 13, 0};
        int[] cache = {0, 7, 7, 7, 0, 0};
        for (int state = 0; state <= 5; state++) {
            PhoneMemory x = Check.phone("phone 2000;program a 13 7 0 13 31 9 9999;");
            bring(x, 0, state);
            Check.equal("uses in state " + state, uses[state], x.program(0, 3));
            Check.equal("all use in state " + state, uses[state], x.size(2));
            Check.equal("pages in state " + state, pages[state], x.program(0, 1));
            Check.equal("cache in state " + state, cache[state], x.program(0, 2));
        }
    }

    private static void usesZipped() {
        Check.sentence("(pages * ratio + 99) / 100 if it is zipped;");
        int[][] rows = {{1, 10, 1}, {1, 100, 1}, {10, 10, 1}, {11, 10, 2}, {3, 33, 1}, {3, 34, 2}, {3, 67, 3}, {7, 43, 4},
            {9, 89, 9}, {390, 10, 39}, {391, 10, 40}, {400, 10, 40}, {400, 100, 400}, {399, 99, 396}};
        for (int[] row : rows) {
            PhoneMemory x = Check.phone("phone 2000;program a " + row[0] + " 0 0 " + row[0] + " " + row[1] + " 1 9999;");
            bring(x, 0, ZIPPED);
            Check.equal(row[0] + " pages by ratio " + row[1], row[2], x.program(0, 3));
            Check.equal("pages stay", row[0], x.program(0, 1));
        }
        PhoneMemory y = Check.phone("phone 2000;program a 400 0 20 999 99 1 9999;");
        y.show(0);
        y.pass(30);
        y.home();
        y.trim(3);
        Check.equal("freed by zipping 999 pages", 9, y.freed(2));
        y.trim(2);
        Check.equal("999 pages by ratio 99", 990, y.program(0, 3));
    }

    private static void neverMoreThanLimit() {
        Check.sentence("All programs together never use more than limit.");
        PhoneMemory x = Check.phone("phone 50;program a 25 0 0 25 50 1 9999;program b 25 0 0 25 50 1 9999;");
        x.show(0);
        Check.equal("just limit", 0, x.trimsFor(1));
        x.show(1);
        Check.equal("all of it is used", 50, x.size(2));
        states("both have place", x, RESTING, SHOWN);
        PhoneMemory y = Check.phone("phone 50;program a 25 1 0 25 50 1 9999;program b 25 0 0 25 50 1 9999;");
        y.show(0);
        Check.equal("one page more than limit", 1, y.trimsFor(1));
        y.show(1);
        Check.equal("without the cache", 50, y.size(2));
        PhoneMemory z = Check.phone("phone 50;program a 50 0 0 50 50 1 9999;program b 51 0 0 51 50 1 9999;"
            + "program c 50 1 0 50 50 1 9999;program d 49 200 0 50 50 1 9999;");
        Check.equal("base is limit", 0, z.trimsFor(0));
        Check.equal("base is limit and 1", -1, z.trimsFor(1));
        Check.equal("its cache is dropped", 1, z.trimsFor(2));
        Check.equal("its cache is dropped whole", 1, z.trimsFor(3));
        z.show(3);
        Check.equal("used without it", 49, z.size(2));
    }

    /** 100 changes each on 60 phones with ten programs, refused ones too. */
    private static void neverMoreThanLimitInRuns() {
        Check.sentence("All programs together never use more than limit.");
        for (int run = 1; run <= 60; run++) {
            PhoneMemory x = Runs.phone(run, 100);
            int used = 0;
            for (int p = 0; p < 10; p++) {
                used += x.program(p, 3);
                Check.equal("shown " + p + " in run " + run, x.size(4) == p, x.program(p, 0) == SHOWN);
                boolean closed = x.program(p, 0) == CLOSED;
                Check.equal("closed with a picture in run " + run, false, closed && x.picture(p) != 0);
                Check.equal("closed with notices in run " + run, false, closed && x.program(p, 5) != 0);
            }
            Check.equal("sum in run " + run, used, x.size(2));
        }
    }

    private static void pictureOfAClosedOne() {
        Check.sentence("A program has a picture, a number: 0 when it was closed, otherwise what was last shown;");
        for (int state = SHOWN; state <= SAVED; state++) {
            PhoneMemory x = Check.phone("phone 2000;program a 13 7 0 13 31 9 9999;");
            x.show(0);
            x.touch(5);
            bring(x, 0, state);
            Check.equal("picture in state " + state, 5, x.picture(0));
            x.show(0);
            Check.equal("picture shown from state " + state, 5, x.picture(0));
            x.close(0);
            Check.equal("picture when it was closed", 0, x.picture(0));
            x.show(0);
            Check.equal("picture shown from closed", 0, x.picture(0));
        }
    }

    /** a has a picture and two notices, and is closed in each way that there is. */
    private static void noNoticesIfClosed() {
        Check.sentence("a closed program has no notices.");
        for (int way = 0; way < 6; way++) {
            PhoneMemory x = Check.phone("phone 60;program a 1 0 0 1 100 1 9999;program b 49 0 1 60 50 1 9999;"
                + "program c 60 0 0 60 50 1 9999;work b 1;");
            x.show(0);
            x.touch(5);
            x.show(1);
            x.send(0, 7);
            x.send(0, 8);
            x.pin(1, way != 2);
            Check.equal("notices wait", 2, x.program(0, 5));
            closeBy(way, x);
            Check.equal("state of a, way " + way, CLOSED, x.program(0, 0));
            Check.equal("picture, way " + way, 0, x.picture(0));
            Check.equal("notices, way " + way, 0, x.program(0, 5));
            Check.equal("first notice, way " + way, -1, x.notice(0, 0));
            Check.equal("lost, way " + way, 0, x.send(0, 3));
            x.setLimit(2000);
            x.show(0);
            Check.equal("picture shown again, way " + way, 0, x.picture(0));
            Check.noState("nothing to read, way " + way, () -> x.read());
        }
    }

    private static void closeBy(int way, PhoneMemory x) {
        if (way == 0) {
            x.close(0);
        } else if (way == 1) {
            for (int kind : new int[] {3, 2, 4, 5}) {
                x.trim(kind);
            }
        } else if (way == 2) {
            x.show(2);
        } else if (way == 3) {
            Check.equal("growth closes a", 4, x.pass(11));
        } else if (way == 4) {
            x.home();
            Check.equal("work closes a", 4, x.pass(11));
        } else {
            x.pass(10);
            Check.equal("full", 60, x.size(2));
            Check.equal("limit closes a", 4, x.setLimit(59));
        }
    }

    // ---- HABITS

    private static void gapSinceTheEnd() {
        Check.sentence("the gap is the number of minutes since it was shown last (since the end of the latest time in which it was);");
        PhoneMemory x = Check.phone("phone 2000;" + programs(3, "10 0 0 10 50 1 9999"));
        x.pass(100);
        x.show(0);
        x.pass(30);
        x.home();
        x.pass(3);
        x.show(0);
        Check.equal("ended by home", 3, x.habit(0));
        x.pass(50);
        x.show(1);
        x.pass(5);
        x.show(0);
        Check.equal("ended by another one", (3 + 5) / 2, x.habit(0));
        x.pass(20);
        x.close(0);
        x.pass(10);
        x.show(0);
        Check.equal("ended by close", (3 + 5 + 10) / 3, x.habit(0));
        x.pass(7);
        x.home();
        x.show(0);
        Check.equal("no minute between", (3 + 5 + 10) / 4, x.habit(0));
        PhoneMemory y = Check.phone("phone 2000;" + programs(1, "10 0 0 10 50 1 9999"));
        y.show(0);
        y.home();
        y.show(0);
        Check.equal("a gap of 0 alone", 0, y.habit(0));
    }

    private static void noGapIfNeverShown() {
        Check.sentence("there is none if it never was since parse.");
        String text = "phone 50;" + programs(2, "30 0 0 30 50 1 9999");
        PhoneMemory x = Check.phone(text);
        x.pass(7);
        x.show(0);
        Check.equal("the first time", 600, x.habit(0));
        x.pass(7);
        x.home();
        Check.parse(x, text);
        x.pass(9);
        x.show(0);
        Check.equal("the first time since parse", 600, x.habit(0));
        x.undo();
        x.pass(5);
        x.show(0);
        Check.equal("what was undone does not count", 600, x.habit(0));
        x.pin(0, true);
        Check.noState("refused", () -> x.show(1));
        x.pass(5);
        x.close(0);
        x.show(1);
        Check.equal("what was refused does not count", 600, x.habit(1));
    }

    private static void noGapIfShownAlready() {
        Check.sentence("When a program comes to be shown that is not shown now,");
        PhoneMemory x = Check.phone("phone 2000;" + programs(2, "10 0 0 10 50 1 9999"));
        x.show(0);
        x.pass(4);
        x.home();
        x.pass(8);
        x.show(0);
        x.pass(3);
        x.show(0);
        x.show(0);
        Check.equal("no gap", 8, x.habit(0));
        Check.equal("it came to be shown twice", 2, x.account(7));
        x.home();
        x.pass(2);
        x.show(0);
        Check.equal("the next gap", (8 + 2) / 2, x.habit(0));
    }

    private static void latestFourGaps() {
        Check.sentence("The latest 4 gaps are kept; its habit is their sum divided by their number, 600 if there are none.");
        PhoneMemory x = Check.phone("phone 2000;" + programs(2, "10 0 0 10 50 1 9999"));
        int[] gaps = {200, 1, 2, 4, 8, 240, 16, 3, 0, 0, 0, 0, 1};
        int[] habits = {200, 100, 67, 51, 3, 63, 67, 66, 64, 4, 0, 0, 0};
        x.show(0);
        for (int i = 0; i < gaps.length; i++) {
            x.home();
            if (gaps[i] > 0) {
                x.pass(gaps[i]);
            }
            x.show(0);
            Check.equal("habit behind " + (i + 1) + " gaps", habits[i], x.habit(0));
        }
        // the gaps before a parse are not among the latest ones
        PhoneMemory y = Check.phone("phone 2000;" + programs(2, "10 0 0 10 50 1 9999"));
        for (int i = 0; i < 6; i++) {
            y.show(i % 2);
            y.pass(100);
        }
        Check.parse(y, "phone 2000;" + programs(2, "10 0 0 10 50 1 9999"));
        y.show(0);
        for (int i = 1; i <= 4; i++) {
            y.home();
            y.pass(7);
            y.show(0);
            Check.equal("habit since parse behind " + i, 7, y.habit(0));
        }
    }

    private static void gapsOfTenPrograms() {
        Check.sentence("The latest 4 gaps are kept;");
        PhoneMemory x = Check.phone("phone 2000;" + programs(10, "10 0 0 10 50 1 9999"));
        int[] ends = new int[10];
        List<List<Integer>> gaps = new ArrayList<>();
        int minute = 0;
        for (int p = 0; p < 10; p++) {
            gaps.add(new ArrayList<>());
        }
        for (int round = 0; round < 7; round++) {
            for (int p = 0; p < 10; p++) {
                x.show(p);
                if (round > 0) {
                    gaps.get(p).add(minute - ends[p]);
                }
                int minutes = 1 + (round * 7 + p * p) % 23;
                x.pass(minutes);
                minute += minutes;
                ends[p] = minute;
            }
            for (int p = 0; p < 10; p++) {
                List<Integer> latest = gaps.get(p).subList(Math.max(0, round - 4), round);
                int sum = 0;
                for (int gap : latest) {
                    sum += gap;
                }
                Check.equal("habit of " + p + " in round " + round, round == 0 ? 600 : sum / latest.size(), x.habit(p));
            }
        }
    }

    private static void habitWithoutGaps() {
        Check.sentence("600 if there are none.");
        PhoneMemory x = Check.phone("phone 2000;" + programs(2, "10 0 0 10 50 1 9999"));
        Check.equal("never shown", 600, x.habit(0));
        x.show(0);
        Check.equal("shown for the first time", 600, x.habit(0));
        x.pass(240);
        x.home();
        x.pass(240);
        Check.equal("time is no gap", 600, x.habit(0));
        Check.equal("the other one", 600, x.habit(1));
        x.close(0);
        Check.equal("closed", 600, x.habit(0));
    }

    private static void followsWhateverTheState() {
        Check.sentence("If another program was shown before it (the one that was shown last, whatever its state is now), this program "
            + "has followed that one once more.");
        for (int state = CLOSED; state <= SAVED; state++) {
            PhoneMemory x = Check.phone("phone 2000;" + programs(3, "10 0 0 10 50 1 9999"));
            bring(x, 0, state);
            x.pass(100);
            x.show(1);
            Check.equal("b followed a in state " + state, 1, x.followed(0, 1));
            Check.equal("a did not follow b", 0, x.followed(1, 0));
            x.show(2);
            Check.equal("c followed b", 1, x.followed(1, 2));
            Check.equal("c did not follow a", 0, x.followed(0, 2));
        }
    }

    private static void followsOnlyAnother() {
        Check.sentence("If another program was shown before it");
        PhoneMemory x = Check.phone("phone 50;" + programs(2, "10 0 0 10 50 1 9999") + "program c 41 0 0 41 50 1 9999;");
        x.show(0);
        Check.equal("none was shown before the first one", 0, x.followed(0, 0) + x.followed(1, 0) + x.followed(2, 0));
        x.show(0);
        Check.equal("it was shown already", 0, x.followed(0, 0));
        x.home();
        x.show(0);
        x.close(0);
        x.show(0);
        Check.equal("it was shown last itself", 0, x.followed(0, 0));
        Check.equal("so none is likeliest", -1, x.likeliest(0));
        x.pin(0, true);
        Check.noState("refused", () -> x.show(2));
        Check.equal("a refused one did not follow", 0, x.followed(0, 2));
        x.show(1);
        Check.equal("the next one followed a", 1, x.followed(0, 1));
        Check.equal("and not the refused one", 0, x.followed(2, 1));
        x.undo();
        Check.equal("undone", 0, x.followed(0, 1));
    }

    private static void promiseOfTheShownOne() {
        Check.sentence("The promise of a program is 0 if it is shown,");
        PhoneMemory x = Check.phone("phone 2000;" + programs(2, "10 0 0 10 50 1 9999"));
        x.show(0);
        Check.equal("shown without a gap", 0, x.promise(0));
        x.pass(5);
        x.home();
        Check.equal("not shown any more", 600, x.promise(0));
        x.pass(30);
        x.show(0);
        Check.equal("shown with a gap of 30", 0, x.promise(0));
        x.show(1);
        Check.equal("another one is shown", 30, x.promise(0));
        Check.equal("that one", 0, x.promise(1));
    }

    /** c follows a some times, then b does; a is shown for 10 minutes before each, so the gaps of b are 10. */
    private static void promiseOfFollowers() {
        Check.sentence("if it has followed the program that was shown last (or is shown) at least once, and at least in half of the "
            + "cases in which any program followed that one.");
        for (int all = 0; all <= 7; all++) {
            for (int times = 0; times <= all; times++) {
                followers(all, times, 0, 1, 2);
                followers(all, times, 2, 0, 1);
                followers(all, times, 9, 8, 0);
                followers(all, times, 0, 9, 1);
            }
        }
    }

    private static void followers(int all, int times, int a, int b, int c) {
        PhoneMemory x = Check.phone("phone 2000;" + programs(10, "10 0 0 10 50 1 9999"));
        x.show(a);
        for (int i = 0; i < all; i++) {
            x.pass(10);
            x.show(i < all - times ? c : b);
            x.show(a);
        }
        String when = times + " of " + all + ", " + b + " behind " + a;
        boolean half = times >= 1 && times * 2 >= all;
        int promise = half ? 0 : times <= 1 ? 600 : 10;
        Check.equal(when, promise, x.promise(b));
        x.home();
        Check.equal(when + ", it rests", promise, x.promise(b));
        x.close(a);
        Check.equal(when + ", it is closed", promise, x.promise(b));
    }

    private static void promiseAtLeast0() {
        Check.sentence("Otherwise it is habit minus the minutes since it was shown last, at least 0;");
        PhoneMemory x = Check.phone("phone 2000;" + programs(1, "10 0 0 10 50 1 9999"));
        x.show(0);
        x.home();
        x.pass(5);
        x.show(0);
        x.pass(20);
        x.home();
        int[] promises = {5, 4, 3, 2, 1, 0, 0, 0};
        for (int minutes = 0; minutes < promises.length; minutes++) {
            Check.equal(minutes + " minutes", promises[minutes], x.promise(0));
            x.pass(1);
        }
        x.pass(240);
        Check.equal("long ago", 0, x.promise(0));
        PhoneMemory y = Check.phone("phone 2000;" + programs(1, "10 0 0 10 50 1 9999"));
        y.show(0);
        y.home();
        y.show(0);
        y.home();
        Check.equal("a habit of 0", 0, y.promise(0));
        y.pass(1);
        Check.equal("a habit of 0 and a minute", 0, y.promise(0));
    }

    private static void promiseNeverShown() {
        Check.sentence("600 if it never was shown.");
        PhoneMemory x = Check.phone("phone 50;" + programs(1, "40 0 0 40 50 1 9999") + "program b 20 0 0 20 50 1 9999;");
        for (int i = 0; i < 4; i++) {
            Check.equal("never shown, " + i, 600, x.promise(0));
            x.pass(240);
        }
        x.show(1);
        x.pin(1, true);
        Check.noState("refused", () -> x.show(0));
        Check.equal("refused", 600, x.promise(0));
        x.pin(1, false);
        x.show(0);
        x.home();
        x.pass(9);
        Check.equal("shown once", 591, x.promise(0));
        x.undo();
        x.undo();
        x.undo();
        Check.equal("undone", 600, x.promise(0));
    }

    // ---- TRIMS

    /** A program in each state, with each cache, pinned and not, asks for a step; can tells by the sentence whether it has it. */
    private static void step(int kind, int after) {
        for (int state = CLOSED; state <= SAVED; state++) {
            for (int cache : new int[] {0, 1, 200}) {
                step(kind, after, state, cache, false);
                step(kind, after, state, cache, true);
            }
        }
    }

    private static boolean can(int kind, int state, int cache, boolean pinned) {
        switch (kind) {
            case 1: return (state == RESTING || state == FROZEN) && cache > 0;
            case 2: return state == FROZEN && !pinned;
            case 3: return state == RESTING && !pinned;
            case 4: return state == ZIPPED && !pinned;
            case 5: return state == SAVED && !pinned;
            default: return state == SHOWN && cache > 0;
        }
    }

    private static void step(int kind, int after, int state, int cache, boolean pinned) {
        PhoneMemory x = Check.phone("phone 2000;program a 20 " + cache + " 0 20 50 3 9999;");
        bring(x, 0, state);
        x.pin(0, pinned);
        String what = "step " + kind + " in state " + state + " with a cache of " + cache + (pinned ? ", pinned" : "");
        int used = x.size(2);
        int freed = x.freed(kind);
        if (!can(kind, state, cache, pinned)) {
            Check.equal("victim of " + what, -1, x.victim(kind));
            Check.equal("freed by " + what, 0, freed);
            Check.noState(what, () -> x.trim(kind));
            Check.equal("state stays, " + what, state, x.program(0, 0));
            return;
        }
        Check.equal("victim of " + what, 0, x.victim(kind));
        Check.equal("victim and freed change nothing, " + what, used, x.size(2));
        Check.equal(what, 0, x.trim(kind));
        Check.equal("state behind " + what, after < 0 ? state : after, x.program(0, 0));
        Check.equal("pages behind " + what, kind == 4 || kind == 5 ? 0 : 20, x.program(0, 1));
        Check.equal("cache behind " + what, kind == 3 ? cache : 0, x.program(0, 2));
        Check.equal("freed by " + what, freed, used - x.size(2));
        Check.equal("entry of " + what, kind, x.log(0, 0));
    }

    private static void step1() {
        Check.sentence("1: a program that is resting or frozen and has a cache: its cache is dropped (0 pages).");
        step(1, -1);
    }

    private static void step2() {
        Check.sentence("2: a frozen program that is not pinned: it is zipped; its cache is dropped, too.");
        step(2, ZIPPED);
    }

    private static void step3() {
        Check.sentence("3: a resting program that is not pinned: it is frozen.");
        step(3, FROZEN);
    }

    private static void step4() {
        Check.sentence("4: a zipped program that is not pinned: it is saved.");
        step(4, SAVED);
    }

    private static void step5() {
        Check.sentence("5: a saved program that is not pinned: it is closed.");
        step(5, CLOSED);
    }

    private static void step6() {
        Check.sentence("6: the program that is shown, if it has a cache: its cache is dropped.");
        step(6, -1);
    }

    /** By promise a comes first, then c and b; by size c, a and b; by recent b, c and a. */
    private static void greatestRank() {
        Check.sentence("the one comes first that has the greatest rank: by the policy promise its promise, by size what it uses, by "
            + "recent the minutes since it was shown last;");
        int[][] orders = {{0, 2, 1}, {2, 0, 1}, {1, 2, 0}};
        for (int policy = 0; policy <= 2; policy++) {
            PhoneMemory x = threeRest(policy);
            for (int kind : new int[] {1, 3, 2, 4, 5}) {
                for (int i = 0; i < 3; i++) {
                    Check.equal("policy " + policy + ", victim of " + kind + ", " + i, orders[policy][i], x.victim(kind));
                    Check.equal("policy " + policy + ", step " + kind + ", " + i, orders[policy][i], x.trim(kind));
                }
                Check.equal("no one is left, kind " + kind, -1, x.victim(kind));
            }
            // the same at once: the caches, each one frozen and zipped, all saved and one closed
            PhoneMemory y = threeRest(policy);
            y.setLimit(61);
            y.show(3);
            int[] order = orders[policy];
            int[] kinds = {1, 1, 1, 3, 2, 3, 2, 3, 2, 4, 4, 4, 5, 7};
            int[] programs = {order[0], order[1], order[2], order[0], order[0], order[1], order[1], order[2], order[2],
                order[0], order[1], order[2], order[0], 3};
            entries("by policy " + policy, y, kinds, programs);
        }
    }

    private static PhoneMemory threeRest(int policy) {
        PhoneMemory x = Check.phone("phone 2000;program a 40 5 0 40 50 7 9999;program b 30 5 0 30 50 5 9999;"
            + "program c 50 5 0 50 50 9 9999;program d 45 0 0 45 50 1 9999;");
        for (int p : new int[] {1, 2, 0}) {
            x.show(p);
            x.pass(1);
        }
        x.home();
        x.setPolicy(policy);
        return x;
    }

    private static void smallestNumber() {
        Check.sentence("of several the one with the smallest number.");
        for (int policy = 0; policy <= 2; policy++) {
            PhoneMemory x = Check.phone("phone 2000;" + programs(10, "20 5 0 20 50 5 9999"));
            for (int p = 9; p >= 0; p--) {
                x.show(p);
            }
            x.home();
            x.setPolicy(policy);
            for (int kind : new int[] {1, 3, 2, 4, 5}) {
                for (int p = 0; p < 10; p++) {
                    Check.equal("policy " + policy + ", kind " + kind, p, x.victim(kind));
                    Check.equal("policy " + policy + ", step " + kind, p, x.trim(kind));
                }
                Check.noState("policy " + policy + ", no eleventh step " + kind, () -> x.trim(kind));
            }
        }
    }

    private static void rankBySizeIsWhatItUses() {
        Check.sentence("by size what it uses,");
        PhoneMemory x = Check.phone("phone 2000;program a 60 0 0 60 10 2 9999;program b 40 21 0 40 100 1 9999;policy size;");
        x.show(0);
        x.show(1);
        x.home();
        Check.equal("60 and 40 with a cache of 21", 1, x.victim(3));
        x.trim(1);
        Check.equal("60 and 40", 0, x.victim(3));
        x.trim(3);
        x.trim(3);
        x.trim(2);
        x.trim(2);
        Check.equal("zipped, 6 and 40", 1, x.victim(4));
        x.trim(4);
        x.trim(4);
        Check.equal("saved, 2 and 1", 0, x.victim(5));
        // what was used before the steps does not count any more: without its cache b comes behind a
        PhoneMemory y = Check.phone("phone 2000;program a 60 0 0 60 10 2 9999;program b 40 21 0 40 100 1 9999;policy size;");
        y.show(0);
        y.show(1);
        y.home();
        Check.equal("cache, freeze and zip", 3, y.setLimit(99));
        states("by size then", y, ZIPPED, RESTING);
    }

    /** a is greater and precious, b is not; c is precious, too, and the greatest of all. */
    private static void preciousComeLast() {
        Check.sentence("For the kinds 4 and 5, however, programs that are precious come only if there are no others.");
        PhoneMemory x = Check.phone("phone 2000;program a 60 5 0 60 50 6 0;program b 50 5 0 50 50 5 9999;"
            + "program c 70 5 0 70 50 7 0;policy size;");
        for (int p = 0; p < 3; p++) {
            x.show(p);
        }
        x.home();
        Check.equal("a is precious", 1, x.program(0, 7));
        Check.equal("b is not", 0, x.program(1, 7));
        Check.equal("c is", 1, x.program(2, 7));
        int[][] orders = {{1, 2, 0, 1}, {3, 2, 0, 1}, {2, 2, 0, 1}, {4, 1, 2, 0}, {5, 1, 2, 0}};
        for (int[] order : orders) {
            for (int i = 1; i <= 3; i++) {
                Check.equal("kind " + order[0] + ", " + i, order[i], x.trim(order[0]));
            }
        }
        PhoneMemory y = Check.phone("phone 2000;program a 60 0 0 60 50 6 0;program b 50 0 0 50 50 5 9999;policy size;");
        y.show(0);
        y.show(1);
        y.home();
        for (int i = 0; i < 2; i++) {
            y.trim(3);
            y.trim(2);
        }
        y.pin(1, true);
        Check.equal("the other one is pinned, so there is none", 0, y.victim(4));
        y.pin(1, false);
        Check.equal("the other one", 1, y.trim(4));
        Check.equal("the other one is saved, so there is none", 0, y.victim(4));
    }

    private static void preciousFor60Minutes() {
        Check.sentence("A program is precious for 60 minutes after its latest complaint (if its minute is m, up to and including the "
            + "minute m + 59).");
        for (int m : new int[] {0, 1, 100}) {
            PhoneMemory x = Check.phone("phone 2000;costs 1 0 0 0;program a 60 0 0 60 50 6 0;program b 50 0 0 50 50 5 9999;policy size;");
            if (m > 0) {
                x.pass(m);
            }
            Check.equal("without a complaint", 0, x.program(0, 7));
            x.show(0);
            x.show(1);
            x.home();
            for (int i = 0; i < 2; i++) {
                x.trim(3);
                x.trim(2);
            }
            Check.equal("in minute m", 1, x.program(0, 7));
            Check.equal("victim in minute m", 1, x.victim(4));
            x.pass(59);
            Check.equal("in minute m + 59", 1, x.program(0, 7));
            Check.equal("victim in minute m + 59", 1, x.victim(4));
            x.pass(1);
            Check.equal("in minute m + 60", 0, x.program(0, 7));
            Check.equal("victim in minute m + 60", 0, x.victim(4));
            Check.equal("the complaint stays", 1, x.program(0, 4));
        }
        PhoneMemory y = Check.phone("phone 2000;costs 1 0 0 0;program a 60 0 0 60 50 6 0;");
        y.show(0);
        y.pass(59);
        y.close(0);
        y.show(0);
        Check.equal("two complaints", 2, y.program(0, 4));
        y.pass(59);
        Check.equal("the latest one counts", 1, y.program(0, 7));
        y.home();
        y.show(0);
        Check.equal("no complaint", 2, y.program(0, 4));
        y.pass(1);
        Check.equal("60 minutes behind the latest one", 0, y.program(0, 7));
    }

    /** a and b rest, c is shown: 45, 45 and 65 pages. Each limit is one page too little for what is used. */
    private static void smallestKindFirst() {
        Check.sentence("Memory is made as follows: as long as all programs together use more than limit, the step of the smallest kind "
            + "that a program can have is done.");
        String text = "phone 155;program a 40 5 0 40 50 4 9999;program b 40 5 0 40 50 4 9999;program c 60 5 0 60 50 4 9999;policy size;";
        PhoneMemory x = Check.phone(text);
        for (int p = 0; p < 3; p++) {
            x.show(p);
        }
        Check.equal("just limit, no step", 0, x.account(1) + x.account(3));
        int[] limits = {155, 154, 150, 149, 145, 144, 125, 124, 105, 104, 89, 88, 73, 72, 69, 68, 65, 64, 60};
        int[] steps = {0, 1, 0, 1, 0, 2, 0, 2, 0, 1, 0, 1, 0, 1, 0, 1, 0, 1, 0};
        for (int i = 0; i < limits.length; i++) {
            Check.equal("limit " + limits[i], steps[i], x.setLimit(limits[i]));
        }
        Check.noState("limit 59", () -> x.setLimit(59));
        int[] kinds = {1, 1, 3, 2, 3, 2, 4, 4, 5, 5, 6};
        int[] programs = {0, 1, 0, 0, 1, 1, 0, 1, 0, 1, 2};
        entries("one by one", x, kinds, programs);
        PhoneMemory y = Check.phone(text);
        for (int p = 0; p < 3; p++) {
            y.show(p);
        }
        Check.equal("all at once", 11, y.setLimit(60));
        entries("all at once", y, kinds, programs);
    }

    private static void entries(String when, PhoneMemory x, int[] kinds, int[] programs) {
        for (int i = 0; i < kinds.length; i++) {
            int k = kinds.length - 1 - i;
            Check.equal("kind of step " + i + " " + when, kinds[i], x.log(k, 0));
            Check.equal("program of step " + i + " " + when, programs[i], x.log(k, 1));
        }
    }

    /** Nine programs are closed and the shown one loses its cache: more steps there cannot be. */
    private static void fortySixSteps() {
        Check.sentence("as long as all programs together use more than limit, the step of the smallest kind that a program can have is "
            + "done.");
        PhoneMemory x = Check.phone("phone 400;" + programs(9, "10 5 0 10 50 1 9999") + "program j 400 1 0 400 50 1 9999;policy recent;");
        for (int p = 8; p >= 0; p--) {
            x.show(p);
        }
        Check.equal("all would be closed", 46, x.trimsFor(9));
        Check.equal("the last one, too", 0, x.stateAfter(9, 8));
        Check.equal("shown then", 1, x.stateAfter(9, 9));
        Check.equal("wait", 4000, x.show(9));
        Check.equal("used", 400, x.size(2));
        int[] counts = {9, 9, 9, 9, 9, 1};
        for (int kind = 1; kind <= 6; kind++) {
            Check.equal("steps of kind " + kind, counts[kind - 1], x.account(kind));
        }
        int[] kinds = {3, 2, 3, 2, 4, 4, 4, 4, 4, 4, 4, 4, 4, 5, 5, 5, 5, 5, 5, 5, 5, 5, 6, 7};
        int[] programs = {7, 7, 8, 8, 0, 1, 2, 3, 4, 5, 6, 7, 8, 0, 1, 2, 3, 4, 5, 6, 7, 8, 9, 9};
        entries("of 46", x, kinds, programs);
        Check.equal("no more than 24", -1, x.log(24, 0));
        PhoneMemory y = Check.phone("phone 2000;" + programs(9, "10 5 0 10 50 1 9999") + "program j 400 1 0 400 50 1 9999;");
        for (int p = 0; p < 10; p++) {
            y.show(p);
        }
        Check.equal("as many by a limit", 46, y.setLimit(400));
        states("by a limit", y, 0, 0, 0, 0, 0, 0, 0, 0, 0, 1);
    }

    private static void refusedIfNoStepIsLeft() {
        Check.sentence("If there is none any more, what needed the memory is refused.");
        PhoneMemory x = Check.phone("phone 100;program a 50 0 1 99 50 1 9999;program b 50 0 0 99 50 1 9999;"
            + "program c 51 0 0 51 50 1 9999;work b 1;");
        x.show(1);
        x.show(0);
        x.pin(1, true);
        Check.noState("a showing", () -> x.show(2));
        Check.noState("a limit", () -> x.setLimit(99));
        Check.equal("pages of a minute", 0, x.pass(1));
        Check.equal("growth", 50, x.program(0, 1));
        Check.equal("work", 50, x.program(1, 1));
        Check.equal("both were refused", 2, x.account(9));
        x.pin(1, false);
        Check.equal("a page of a minute with b zipped", 2, x.pass(1));
        states("not refused", x, SHOWN, ZIPPED, CLOSED);
        // a is zipped (26): 26 + 51 + 25 of 100, so a is saved, too
        Check.equal("a showing", 3, x.trimsFor(2));
    }

    // ---- SHOWING

    private static void theShownOneRests() {
        Check.sentence("a program that is shown rests from now on.");
        PhoneMemory x = Check.phone("phone 2000;" + programs(2, "10 5 0 90 50 1 9999") + "work a 2;");
        x.show(0);
        x.pass(3);
        x.show(1);
        Check.equal("rests", RESTING, x.program(0, 0));
        Check.equal("from now on", 600, x.promise(0));
        x.pass(1);
        Check.equal("for a minute, no work yet", 10, x.program(0, 1));
        x.pass(1);
        Check.equal("for two minutes", 11, x.program(0, 1));
        Check.equal("pages of its cache stay", 5, x.program(0, 2));
    }

    /** a has grown from 40 to 50 pages and lost its cache of 9 before. */
    private static void pagesOfTheShownOne() {
        Check.sentence("if it was closed, its pages are base, its cache is whole and its picture is 0; if it was saved, its pages are "
            + "base and its cache is whole. (Otherwise both stay.)");
        int[] pages = {40, 50, 50, 50, 50, 40};
        int[] cache = {9, 0, 0, 0, 0, 9};
        int[] picture = {0, 7, 7, 7, 7, 7};
        for (int state = CLOSED; state <= SAVED; state++) {
            PhoneMemory x = Check.phone("phone 2000;program a 40 9 5 60 50 3 9999;");
            x.show(0);
            x.touch(7);
            x.pass(2);
            x.trim(6);
            bring(x, 0, state);
            x.show(0);
            Check.equal("state from " + state, SHOWN, x.program(0, 0));
            Check.equal("pages from state " + state, pages[state], x.program(0, 1));
            Check.equal("cache from state " + state, cache[state], x.program(0, 2));
            Check.equal("picture from state " + state, picture[state], x.picture(0));
        }
        for (int state = SHOWN; state <= FROZEN; state++) {
            PhoneMemory x = Check.phone("phone 2000;program a 40 9 5 60 50 3 9999;");
            bring(x, 0, state);
            x.show(0);
            Check.equal("a cache that was not dropped, from state " + state, 9, x.program(0, 2));
        }
    }

    /** a followed c once. b was shown last, so a and b promise 600; with c shown, a promises 0. */
    private static void promisesWhileShowing() {
        Check.sentence("for all promises it is the one that is shown by now,");
        PhoneMemory x = Check.phone("phone 110;program a 30 0 0 30 50 1 9999;program b 30 0 0 30 50 1 9999;program c 50 0 0 50 50 1 9999;");
        x.show(2);
        x.show(0);
        x.show(1);
        x.close(2);
        x.home();
        x.setLimit(100);
        Check.equal("promise of a now", 600, x.promise(0));
        Check.equal("victim now", 0, x.victim(3));
        Check.equal("a keeps its place", RESTING, x.stateAfter(2, 0));
        Check.equal("b is zipped", ZIPPED, x.stateAfter(2, 1));
        x.show(2);
        states("shown", x, RESTING, ZIPPED, SHOWN);
        // the other way round: b followed a, which was shown last, so b promises 0; with c shown it promises 600 and is zipped
        PhoneMemory y = Check.phone("phone 110;program a 30 0 0 30 50 1 9999;program b 30 0 0 30 50 1 9999;program c 50 0 0 50 50 1 9999;");
        y.show(0);
        y.show(1);
        y.pass(5);
        y.show(0);
        y.setLimit(100);
        Check.equal("promise of b now", 0, y.promise(1));
        y.show(2);
        // a has a gap of 5, so it promises 5
        states("shown", y, RESTING, ZIPPED, SHOWN);
    }

    private static void countedOnlyIfNotRefused() {
        Check.sentence("but gaps, and what followed what, are counted only afterwards, and only if nothing was refused.");
        PhoneMemory x = Check.phone("phone 90;program a 40 0 0 40 50 1 9999;program b 50 0 0 50 50 1 9999;");
        x.show(1);
        x.pass(5);
        x.show(0);
        x.pass(3);
        x.close(1);
        x.pin(0, true);
        x.setLimit(89);
        Check.noState("refused", () -> x.show(1));
        Check.equal("no gap", 600, x.habit(1));
        Check.equal("not followed", 0, x.followed(0, 1));
        Check.equal("shown last", 0, x.size(5));
        Check.equal("shown", 0, x.size(4));
        Check.equal("entries", 2, x.account(7));
        x.setLimit(90);
        x.show(1);
        Check.equal("gap", 3, x.habit(1));
        Check.equal("followed", 1, x.followed(0, 1));
    }

    /** b is to be shown from each state and has no place beside a, which is pinned; c would be closed for it. */
    private static void asBeforeIfRefused() {
        Check.sentence("If it is refused, everything is as before.");
        for (int state : new int[] {CLOSED, ZIPPED, SAVED}) {
            PhoneMemory x = Check.phone("phone 200;program a 40 9 0 40 50 1 0;program b 50 9 5 60 50 3 0;program c 10 4 0 10 50 2 0;");
            x.show(1);
            x.touch(8);
            x.pass(1);
            bring(x, 1, state);
            x.send(1, 4);
            x.show(2);
            x.pass(2);
            x.show(0);
            x.touch(6);
            x.pin(0, true);
            x.setLimit(89);
            String before = Check.all(x);
            Check.noState("refused from state " + state, () -> x.show(1));
            Check.equal("all is as before from state " + state, true, before.equals(Check.all(x)));
            x.undo();
            Check.equal("undo goes behind the limit", 200, x.size(1));
        }
    }

    private static void waitByState() {
        Check.sentence("The wait is new * base if it was closed, warm if it was resting or frozen, warm + zip * pages if it was zipped, "
            + "saved * base if it was saved.");
        int[] waits = {7 * 40, 0, 11, 11, 11 + 3 * 50, 4 * 40};
        int[] greatest = {99 * 400, 0, 99, 99, 99 + 99 * 999, 99 * 400};
        for (int state = CLOSED; state <= SAVED; state++) {
            wait("costs 7 3 4 11;program a 40 9 5 60 50 3 9999;", 2, state, waits[state]);
            wait("costs 0 0 0 0;program a 40 9 5 60 50 3 9999;", 2, state, 0);
            wait("costs 99 99 99 99;program a 400 9 20 999 50 3 9999;", 30, state, greatest[state]);
        }
    }

    private static void wait(String text, int minutes, int state, int wait) {
        PhoneMemory x = Check.phone("phone 2000;" + text);
        x.show(0);
        x.pass(minutes);
        bring(x, 0, state);
        Check.equal("waitOf in state " + state + " of " + text, wait, x.waitOf(0));
        Check.equal("show in state " + state + " of " + text, wait, x.show(0));
    }

    /** Waits of 100, 20, 20, 40 and 50. */
    private static void complaintIfGreater() {
        Check.sentence("If it is greater than patience, the program gets a complaint.");
        int[] waits = {100, 0, 20, 20, 40, 50};
        for (int state = CLOSED; state <= SAVED; state++) {
            for (int less = 0; less <= 1; less++) {
                int patience = Math.max(0, waits[state] - less);
                PhoneMemory x = Check.phone("phone 2000;program a 10 0 0 10 50 1 " + patience + ";");
                bring(x, 0, state);
                int complaints = x.program(0, 4);
                int entries = x.account(8);
                x.show(0);
                int more = state == SHOWN ? 0 : less;
                Check.equal("state " + state + ", patience " + patience, more, x.program(0, 4) - complaints);
                Check.equal("entry, state " + state + ", patience " + patience, more, x.account(8) - entries);
                Check.equal("all, state " + state + ", patience " + patience, x.program(0, 4), x.size(7));
            }
        }
        PhoneMemory y = Check.phone("phone 2000;costs 99 0 0 0;program a 101 0 0 101 50 1 9999;program b 102 0 0 102 50 1 9999;"
            + "program c 1 0 0 1 50 1 0;");
        Check.equal("9999", 9999, y.show(0));
        Check.equal("just patience", 0, y.program(0, 4));
        Check.equal("10098", 10098, y.show(1));
        Check.equal("more than patience", 1, y.program(1, 4));
        y.show(2);
        y.show(1);
        Check.equal("a wait of 0 with patience 9999", 1, y.program(1, 4));
        y.show(2);
        Check.equal("a wait of 0 with patience 0", 1, y.program(2, 4));
        y.show(0);
        Check.equal("complaints about all", 2, y.size(7));
    }

    // ---- A MINUTE

    private static void timeRises() {
        Check.sentence("A MINUTE that passes: the time rises by 1.");
        PhoneMemory x = Check.phone("phone 2000;");
        Check.equal("at first", 0, x.size(3));
        x.pass(1);
        Check.equal("one", 1, x.size(3));
        x.pass(240);
        Check.equal("240 more", 241, x.size(3));
    }

    private static void growsUpToMost() {
        Check.sentence("The program that is shown gets grow more pages, at most up to most;");
        int[][] rows = {{0, 60, 10, 10, 10}, {1, 12, 11, 12, 12}, {20, 51, 30, 50, 51}, {20, 50, 30, 50, 50}, {20, 11, 11, 11, 11},
            {20, 10, 10, 10, 10}};
        for (int[] row : rows) {
            PhoneMemory x = Check.phone("phone 60;program a 10 9 " + row[0] + " " + row[1] + " 50 1 9999;");
            x.show(0);
            for (int minute = 1; minute <= 3; minute++) {
                Check.equal("steps", 0, x.pass(1));
                String when = " behind " + minute + " with grow " + row[0] + " and most " + row[1];
                Check.equal("pages" + when, row[1 + minute], x.program(0, 1));
                Check.equal("cache" + when, 9, x.program(0, 2));
            }
            x.home();
            x.pass(9);
            Check.equal("only while it is shown", row[4], x.program(0, 1));
        }
        PhoneMemory y = Check.phone("phone 50;program a 10 0 20 50 50 1 9999;program b 30 0 0 30 50 1 9999;");
        y.show(0);
        y.pass(240);
        Check.equal("most is limit", 50, y.program(0, 1));
        Check.equal("with most it needs nothing", 0, y.account(9));
    }

    private static void growsJustToTheLimit() {
        Check.sentence("then memory is made (the step 6, too); if it is refused, it gets none,");
        grows("45 0 5 60", 50, 0);
        grows("45 0 6 60", 45, 1);
        grows("45 0 20 50", 50, 0);
        grows("45 0 20 51", 45, 1);
        grows("50 0 1 51", 50, 1);
        grows("50 0 0 60", 50, 0);
        grows("50 0 20 50", 50, 0);
    }

    private static void grows(String numbers, int pages, int refused) {
        PhoneMemory x = Check.phone("phone 50;program a " + numbers + " 50 1 9999;");
        x.show(0);
        Check.equal("no step with " + numbers, 0, x.pass(1));
        Check.equal("pages with " + numbers, pages, x.program(0, 1));
        Check.equal("refused with " + numbers, refused, x.account(9));
    }

    private static void growsByStep6() {
        Check.sentence("(the step 6, too)");
        PhoneMemory x = Check.phone("phone 60;program a 40 10 5 60 50 1 9999;program b 10 0 0 10 50 10 9999;");
        x.show(1);
        x.show(0);
        Check.equal("full", 60, x.size(2));
        x.pin(1, true);
        Check.equal("the cache of the shown one", 1, x.pass(1));
        Check.equal("step 6", 6, x.log(0, 0));
        Check.equal("its program", 0, x.log(0, 1));
        Check.equal("its minute", 1, x.log(0, 2));
        Check.equal("pages", 45, x.program(0, 1));
        Check.equal("cache", 0, x.program(0, 2));
        x.undo();
        x.pin(1, false);
        // b is frozen, zipped (5) and has given its place
        Check.equal("others come before it", 2, x.pass(1));
        Check.equal("cache stays", 10, x.program(0, 2));
        Check.equal("pages then", 45, x.program(0, 1));
    }

    /** b could be closed and the cache be dropped, and that would not be enough. */
    private static void growthRefused() {
        Check.sentence("if it is refused, it gets none, and no step was done.");
        PhoneMemory x = Check.phone("phone 50;program a 45 2 10 99 50 1 9999;program b 2 1 0 2 50 1 9999;");
        x.show(1);
        x.show(0);
        Check.equal("full", 50, x.size(2));
        Check.equal("no step", 0, x.pass(3));
        states("as before", x, SHOWN, RESTING);
        Check.equal("pages", 45, x.program(0, 1));
        Check.equal("cache", 2, x.program(0, 2));
        Check.equal("cache of b", 1, x.program(1, 2));
        Check.equal("entries", 3, x.account(9));
        for (int kind = 1; kind <= 6; kind++) {
            Check.equal("steps of kind " + kind, 0, x.account(kind));
        }
        for (int k = 0; k < 3; k++) {
            Check.equal("kind " + k, 9, x.log(k, 0));
            Check.equal("program " + k, 0, x.log(k, 1));
            Check.equal("minute " + k, 3 - k, x.log(k, 2));
        }
        Check.equal("nothing else", 7, x.log(3, 0));
        // the next text has room for 5 pages of 10: none comes, not some of them
        PhoneMemory y = Check.phone("phone 50;program a 45 0 10 99 50 1 9999;");
        y.show(0);
        y.pass(1);
        Check.equal("not some of them", 45, y.program(0, 1));
    }

    private static void workAtMultiples() {
        Check.sentence("if the number of minutes since it began to rest is a multiple of every,");
        for (int every : new int[] {1, 2, 7, 59, 60}) {
            PhoneMemory x = Check.phone("phone 2000;program a 10 0 0 99 50 1 9999;work a " + every + ";");
            x.pass(3);
            x.show(0);
            x.pass(11);
            x.home();
            x.pass(every);
            Check.equal("once, every " + every, 11, x.program(0, 1));
            if (every > 1) {
                x.pass(every - 1);
                Check.equal("not yet, every " + every, 11, x.program(0, 1));
                x.pass(1);
            } else {
                x.pass(1);
            }
            Check.equal("twice, every " + every, 12, x.program(0, 1));
            x.undo();
            x.pass(1);
            x.show(0);
            int pages = x.program(0, 1);
            x.pass(120);
            Check.equal("not while it is shown", pages, x.program(0, 1));
            x.home();
            if (every > 1) {
                x.pass(every - 1);
            }
            Check.equal("it began to rest anew", pages, x.program(0, 1));
            x.pass(1);
            Check.equal("every " + every + " minutes of rest", pages + 1, x.program(0, 1));
        }
        PhoneMemory y = Check.phone("phone 2000;program a 10 0 0 99 50 1 9999;");
        y.show(0);
        y.home();
        y.pass(240);
        Check.equal("without work", 10, y.program(0, 1));
    }

    private static void workUpToMost() {
        Check.sentence("it gets one more page if it has fewer than most;");
        PhoneMemory x = Check.phone("phone 50;program a 48 0 0 50 50 1 9999;work a 1;");
        x.show(0);
        x.home();
        x.pin(0, true);
        int[] pages = {49, 50, 50, 50};
        for (int i = 0; i < 4; i++) {
            Check.equal("no step", 0, x.pass(1));
            Check.equal("pages behind " + (i + 1), pages[i], x.program(0, 1));
        }
        Check.equal("with most it needs nothing, though memory is full", 0, x.account(9));
        PhoneMemory y = Check.phone("phone 50;program a 48 0 0 48 50 1 9999;work a 1;");
        y.show(0);
        y.home();
        y.pass(240);
        Check.equal("base is most", 48, y.program(0, 1));
    }

    private static void workJustToTheLimit() {
        Check.sentence("it gets one more page if it has fewer than most; then memory is made;");
        PhoneMemory x = Check.phone("phone 50;program a 49 0 0 99 50 1 9999;work a 1;");
        x.show(0);
        x.home();
        x.pin(0, true);
        x.pass(1);
        Check.equal("just limit", 50, x.program(0, 1));
        Check.equal("not refused", 0, x.account(9));
        x.pass(1);
        Check.equal("one more is refused", 50, x.program(0, 1));
        Check.equal("refused", 1, x.account(9));
        x.pin(0, false);
        Check.equal("it is frozen and zipped for its own page", 2, x.pass(1));
        Check.equal("pages", 51, x.program(0, 1));
        Check.equal("uses", 26, x.program(0, 3));
        x.pass(9);
        Check.equal("zipped, it works no more", 51, x.program(0, 1));
        // the cache of the shown one goes for the page of one that rests
        PhoneMemory y = Check.phone("phone 50;program a 20 0 0 99 50 1 9999;program b 25 5 0 25 50 1 9999;work a 1;");
        y.show(0);
        y.show(1);
        y.pin(0, true);
        Check.equal("step 6 for work", 1, y.pass(1));
        Check.equal("its kind", 6, y.log(0, 0));
        Check.equal("page", 21, y.program(0, 1));
        Check.equal("cache of the shown one", 0, y.program(1, 2));
    }

    private static void workRefused() {
        Check.sentence("if it is refused, it gets none, and no step was done. (A program that does not rest");
        PhoneMemory x = Check.phone("phone 50;" + programs(2, "25 0 0 99 50 1 9999") + "work a 1;work b 2;");
        x.show(1);
        x.show(0);
        x.home();
        x.pin(0, true);
        x.pin(1, true);
        Check.equal("no step", 0, x.pass(4));
        Check.equal("a", 25, x.program(0, 1));
        Check.equal("b", 25, x.program(1, 1));
        int[] programs = {1, 0, 0, 1, 0, 0};
        int[] minutes = {4, 4, 3, 2, 2, 1};
        for (int k = 0; k < 6; k++) {
            Check.equal("kind " + k, 9, x.log(k, 0));
            Check.equal("program " + k, programs[k], x.log(k, 1));
            Check.equal("minute " + k, minutes[k], x.log(k, 2));
        }
        Check.equal("entries", 6, x.account(9));
        Check.equal("the one before", 7, x.log(6, 0));
    }

    private static void workOfThoseWhoDoNotRest() {
        Check.sentence("(A program that does not rest any more when it comes to its turn gets none.)");
        // c grows: b, the greatest, is zipped; a gets its page, b none
        PhoneMemory x = Check.phone("phone 80;program a 20 0 0 99 50 1 9999;program b 30 0 0 99 50 1 9999;"
            + "program c 30 0 1 99 50 1 9999;work a 1;work b 1;policy size;");
        for (int p = 0; p < 3; p++) {
            x.show(p);
        }
        Check.equal("frozen and zipped for the shown one", 2, x.pass(1));
        states("zipped", x, RESTING, ZIPPED, SHOWN);
        Check.equal("a", 21, x.program(0, 1));
        Check.equal("b", 30, x.program(1, 1));
        Check.equal("c", 31, x.program(2, 1));
        // a works first and b is zipped for its page
        PhoneMemory y = Check.phone("phone 50;program a 20 0 0 99 50 1 9999;program b 30 0 0 99 50 1 9999;work a 1;work b 1;policy size;");
        y.show(0);
        y.show(1);
        y.home();
        y.pass(1);
        states("zipped by work", y, RESTING, ZIPPED);
        Check.equal("b has none", 30, y.program(1, 1));
        Check.equal("nothing was refused", 0, y.account(9));
        for (int state : new int[] {FROZEN, ZIPPED}) {
            PhoneMemory z = Check.phone("phone 2000;program a 20 0 0 99 50 1 9999;work a 1;");
            bring(z, 0, state);
            z.pass(240);
            Check.equal("in state " + state, 20, z.program(0, 1));
        }
        for (int state : new int[] {CLOSED, SAVED}) {
            PhoneMemory z = Check.phone("phone 2000;program a 20 0 0 99 50 1 9999;work a 1;");
            bring(z, 0, state);
            z.pass(240);
            Check.equal("in state " + state, 0, z.program(0, 1));
            z.show(0);
            Check.equal("base from state " + state, 20, z.program(0, 1));
        }
    }

    private static void workByAscendingNumbers() {
        Check.sentence("Then each resting program with work, by ascending numbers:");
        // one page is left: a, the first one, gets it
        PhoneMemory x = Check.phone("phone 91;" + programs(3, "30 0 0 99 50 1 9999") + "work c 1;work b 1;work a 1;");
        for (int p = 2; p >= 0; p--) {
            x.show(p);
            x.pin(p, true);
        }
        x.home();
        x.pass(1);
        Check.equal("a", 31, x.program(0, 1));
        Check.equal("b", 30, x.program(1, 1));
        Check.equal("c", 30, x.program(2, 1));
        Check.equal("c was refused last", 2, x.log(0, 1));
        Check.equal("b before it", 1, x.log(1, 1));
        // the shown one comes before all
        PhoneMemory y = Check.phone("phone 61;program a 30 0 0 99 50 1 9999;program b 30 0 1 99 50 1 9999;work a 1;");
        y.show(0);
        y.pin(0, true);
        y.show(1);
        y.pass(1);
        Check.equal("the shown one", 31, y.program(1, 1));
        Check.equal("the one with work", 30, y.program(0, 1));
        Check.equal("refused", 0, y.log(0, 1));
    }
}
