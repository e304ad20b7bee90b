import java.util.ArrayList;
import java.util.List;

/**
 * The sentences of NOTICES, LOG and CHANGES and of promises 7 to 37 that name a boundary case: a test each, which quotes its
 * sentence. Each object is asked at most 512 times, as more is not promised.
 */
public final class CallSentencesTest {
    private static final int[] FAR_OFF = {Integer.MIN_VALUE, -2147483647, -10, -1, 2147483646, Integer.MAX_VALUE};
    private static final String TIGHT = "phone 100;program a 40 10 2 60 50 5 1000;program b 50 20 5 80 40 8 100;work a 2;";

    public static void main(String[] args) {
        noticesFrom0To999();
        pictureInArithmeticOfInt();
        atMostFiveNotices();
        latest24Entries();
        moreThan24EntriesAtOnce();
        orderOfEntries();
        noEntryForRefusedSteps();
        changesThatAlterNothing();
        latestTenChanges();
        whatIsNoChange();
        twoSlots();
        snapshotHoldsAll();
        parseClears();
        exceptionsChangeNothing();
        missingPrograms();
        missingSlots();
        propertiesThatAre0();
        propertyOutOfRange();
        toldWithoutWork();
        toldOutOfRange();
        noticeNone();
        followedMissing();
        likeliestOfSeveral();
        likeliestNone();
        victimNone();
        stepKindOutOfRange();
        freedBelow0();
        freedNone();
        waitOfTheShownOne();
        whyNotShow1();
        whyNotShow0();
        whyNotShow2();
        trimsForNone();
        stateAfterNone();
        questionsTellWhatShowDoes();
        questionsTellWhatTrimDoes();
        waitsForRefused();
        waitsForTellsWhatShowingDoes();
        waitsForPolicyOutOfRange();
        logNone();
        logPartOutOfRange();
        accountOutOfRange();
        accountCountsAll();
        showAgain();
        showRefused();
        homeNone();
        passFrom1To240();
        passCountsSteps();
        touchRange();
        sendWhileShown();
        sendToAClosedOne();
        sendASixthOne();
        readNone();
        pinKeepsTheState();
        trimRefused();
        closePinned();
        closeClosed();
        closeReturns();
        limitRange();
        limitRefused();
        policyRange();
        undoNone();
        saveInPlace();
        restoreEmpty();
        restoreClearsHistory();
        Check.end("CallSentencesTest");
    }

    private static String programs(int count, String numbers) {
        StringBuilder text = new StringBuilder();
        for (int p = 0; p < count; p++) {
            text.append("program ").append((char) ('a' + p)).append(' ').append(numbers).append(';');
        }
        return text.toString();
    }

    private static PhoneMemory roomy(int count) {
        return Check.phone("phone 2000;" + programs(count, "20 5 0 40 50 4 9999"));
    }

    private static void entry(PhoneMemory x, int k, int kind, int program, int minute) {
        Check.equal("kind of entry " + k, kind, x.log(k, 0));
        Check.equal("program of entry " + k, program, x.log(k, 1));
        Check.equal("minute of entry " + k, minute, x.log(k, 2));
    }

    // ---- NOTICES

    private static void noticesFrom0To999() {
        Check.sentence("A notice is a number from 0 to 999.");
        PhoneMemory x = roomy(2);
        x.show(0);
        x.show(1);
        for (int number : new int[] {-1, 1000, 1001, Integer.MIN_VALUE, Integer.MAX_VALUE}) {
            Check.noArgument("touch " + number, () -> x.touch(number));
            Check.noArgument("send to the shown one " + number, () -> x.send(1, number));
            Check.noArgument("send to a resting one " + number, () -> x.send(0, number));
        }
        Check.equal("picture", 0, x.picture(1));
        Check.equal("none waits", 0, x.program(0, 5));
        Check.equal("changes", 2, x.size(8));
        Check.equal("send of 0", 1, x.send(0, 0));
        Check.equal("send of 999", 2, x.send(0, 999));
        Check.equal("0 waits", 0, x.notice(0, 0));
        Check.equal("999 waits", 999, x.notice(0, 1));
        Check.equal("touch of 999", 999, x.touch(999));
        Check.equal("touch of 0", 31 * 999, x.touch(0));
    }

    private static void pictureInArithmeticOfInt() {
        Check.sentence("To take one in means that the picture becomes 31 * picture + notice, in the arithmetic of int.");
        PhoneMemory x = roomy(1);
        x.show(0);
        int[] numbers = {999, 0, 7, 998, 999, 999, 1, 500, 999, 0, 0, 999};
        int picture = 0;
        boolean below = false;
        for (int i = 0; i < numbers.length; i++) {
            picture = (int) (31L * picture + numbers[i]);
            below |= picture < 0;
            if (i % 3 == 0) {
                Check.equal("touch " + i, picture, x.touch(numbers[i]));
            } else if (i % 3 == 1) {
                x.send(0, numbers[i]);
            } else {
                x.home();
                x.send(0, numbers[i]);
                x.show(0);
                Check.equal("read " + i, picture, x.read());
            }
            Check.equal("picture " + i, picture, x.picture(0));
        }
        Check.equal("it has wrapped around", true, below);
        PhoneMemory y = roomy(1);
        y.show(0);
        int[] pictures = {999, 31968, 992007, 30753216, 953350695, -510898528, 1342015815};
        for (int i = 0; i < pictures.length; i++) {
            Check.equal("999 for the time " + (i + 1), pictures[i], y.touch(999));
        }
    }

    private static void atMostFiveNotices() {
        Check.sentence("A program has at most 5 notices that wait.");
        PhoneMemory x = roomy(10);
        for (int p = 0; p < 10; p++) {
            x.show(p);
        }
        x.home();
        for (int p = 0; p < 10; p++) {
            for (int i = 1; i <= 7; i++) {
                Check.equal("send " + i + " to " + p, Math.min(5, i), x.send(p, 100 * p + i));
            }
        }
        for (int p = 0; p < 10; p++) {
            Check.equal("waiting of " + p, 5, x.program(p, 5));
            for (int k = 0; k < 5; k++) {
                Check.equal("notice " + k + " of " + p, 100 * p + k + 3, x.notice(p, k));
            }
            Check.equal("notice 5 of " + p, -1, x.notice(p, 5));
        }
        x.show(9);
        int picture = 0;
        for (int k = 0; k < 5; k++) {
            picture = 31 * picture + 903 + k;
            Check.equal("read " + k, picture, x.read());
            Check.equal("left behind " + k, 4 - k, x.program(9, 5));
        }
        Check.noState("a sixth one", () -> x.read());
        Check.equal("the other one keeps its own", 803, x.notice(8, 0));
    }

    // ---- LOG

    private static void latest24Entries() {
        Check.sentence("The latest 24 entries are kept:");
        for (int entries : new int[] {0, 1, 23, 24, 25, 47, 48, 49}) {
            PhoneMemory x = roomy(2);
            for (int i = 0; i < entries; i++) {
                x.show(i % 2);
                x.pass(1);
            }
            for (int k = 0; k <= 25; k++) {
                boolean kept = k < Math.min(24, entries);
                int i = entries - 1 - k;
                entry(x, k, kept ? 7 : -1, kept ? i % 2 : -1, kept ? i : -1);
            }
            Check.equal("all are counted", entries, x.account(7));
        }
    }

    private static void moreThan24EntriesAtOnce() {
        Check.sentence("The latest 24 entries are kept:");
        PhoneMemory x = Check.phone("phone 50;program a 50 0 1 60 50 1 9999;");
        x.show(0);
        x.pass(240);
        for (int k = 0; k < 24; k++) {
            entry(x, k, 9, 0, 240 - k);
        }
        entry(x, 24, -1, -1, -1);
        Check.equal("all are counted", 240, x.account(9));
        x.undo();
        entry(x, 0, 7, 0, 0);
        entry(x, 1, -1, -1, -1);
        Check.equal("none is counted", 0, x.account(9));
    }

    private static void orderOfEntries() {
        Check.sentence("7 (behind the steps for it) when a program came to be shown, 8 (behind that) for a complaint, 9 for a program "
            + "that was refused a page in a minute; with the program and the minute.");
        PhoneMemory x = Check.phone("phone 100;program a 40 10 0 60 50 5 9999;program b 50 20 5 80 40 8 100;program c 30 0 0 30 50 3 9999;");
        x.pass(3);
        x.show(0);
        entry(x, 0, 7, 0, 3);
        entry(x, 1, -1, -1, -1);
        x.pass(2);
        x.show(1);
        entry(x, 0, 8, 1, 5);
        entry(x, 1, 7, 1, 5);
        entry(x, 2, 2, 0, 5);
        entry(x, 3, 3, 0, 5);
        entry(x, 4, 1, 0, 5);
        entry(x, 5, 7, 0, 3);
        x.setLimit(90);
        x.pin(0, true);
        // 20 and 75 of 90: the cache of b goes, then 5 pages more each minute: 55, 60, 65, 70; then 20 and 75 are too many
        Check.equal("the cache of the shown one", 1, x.pass(5));
        entry(x, 0, 9, 1, 10);
        entry(x, 1, 6, 1, 6);
        x.show(1);
        entry(x, 0, 9, 1, 10);
    }

    private static void noEntryForRefusedSteps() {
        Check.sentence("Steps of what was refused make no entry.");
        PhoneMemory x = Check.phone("phone 100;program a 45 5 20 99 50 1 9999;program b 39 5 0 39 100 1 9999;program c 99 9 0 99 50 1 9999;"
            + "program d 6 0 0 9 50 5 9999;work d 1;");
        x.show(3);
        x.show(1);
        x.show(0);
        x.pin(3, true);
        Check.equal("full", 100, x.size(2));
        int[] before = new int[10];
        for (int kind = 1; kind <= 9; kind++) {
            before[kind] = x.account(kind);
        }
        Check.noState("a showing", () -> x.show(2));
        Check.noState("a limit", () -> x.setLimit(50));
        entry(x, 0, 7, 0, 0);
        for (int kind = 1; kind <= 9; kind++) {
            Check.equal("account of " + kind, before[kind], x.account(kind));
        }
        // a would use more if it was saved
        PhoneMemory y = Check.phone("phone 50;program a 40 0 0 40 10 40 9999;program b 46 0 20 99 50 1 9999;");
        y.show(0);
        y.show(1);
        Check.noState("a step", () -> y.trim(4));
        entry(y, 0, 7, 1, 0);
        Check.equal("no step 4", 0, y.account(4));
        Check.equal("no step for growth", 0, y.pass(1));
        entry(y, 0, 9, 1, 1);
        entry(y, 1, 7, 1, 0);
        Check.equal("still no step 4", 0, y.account(4));
    }

    // ---- CHANGES

    private static void isChange(String change, PhoneMemory x, Check.Call call, boolean alters) {
        String before = Check.all(x);
        int changes = x.size(8);
        call.answer();
        Check.equal(change + " is a change", changes + 1, x.size(8));
        Check.equal(change + " alters something", alters, !before.equals(Check.all(x)));
        Check.equal("undo of " + change, changes, x.undo());
    }

    private static PhoneMemory oneIsShown() {
        PhoneMemory x = roomy(2);
        x.show(1);
        x.show(0);
        return x;
    }

    private static PhoneMemory home() {
        PhoneMemory x = oneIsShown();
        x.home();
        return x;
    }

    private static void changesThatAlterNothing() {
        Check.sentence("The methods from show to setPolicy are changes if they throw no exception, also if they alter nothing.");
        PhoneMemory a = oneIsShown();
        isChange("show again", a, () -> a.show(0), false);
        PhoneMemory b = oneIsShown();
        isChange("show", b, () -> b.show(1), true);
        PhoneMemory c = home();
        isChange("home again", c, () -> c.home(), false);
        PhoneMemory d = oneIsShown();
        isChange("home", d, () -> d.home(), true);
        PhoneMemory e = roomy(2);
        isChange("pass", e, () -> e.pass(1), true);
        PhoneMemory f = oneIsShown();
        isChange("touch of 0", f, () -> f.touch(0), false);
        PhoneMemory g = oneIsShown();
        isChange("touch", g, () -> g.touch(1), true);
        PhoneMemory h = roomy(2);
        isChange("send to a closed one", h, () -> h.send(0, 5), false);
        PhoneMemory i = oneIsShown();
        isChange("send of 0 to the shown one", i, () -> i.send(0, 0), false);
        PhoneMemory j = oneIsShown();
        isChange("send to a resting one", j, () -> j.send(1, 0), true);
        changesThatAlterNothingEither();
    }

    private static void changesThatAlterNothingEither() {
        PhoneMemory a = home();
        a.send(0, 0);
        a.show(0);
        isChange("read of 0", a, () -> a.read(), true);
        PhoneMemory b = roomy(2);
        isChange("pin not", b, () -> b.pin(0, false) ? 1 : 0, false);
        PhoneMemory c = roomy(2);
        isChange("pin", c, () -> c.pin(0, true) ? 1 : 0, true);
        PhoneMemory d = home();
        isChange("trim", d, () -> d.trim(3), true);
        PhoneMemory e = home();
        isChange("close", e, () -> e.close(1), true);
        PhoneMemory f = roomy(2);
        isChange("the same limit", f, () -> f.setLimit(2000), false);
        PhoneMemory g = roomy(2);
        isChange("another limit", g, () -> g.setLimit(1999), true);
        PhoneMemory h = roomy(2);
        isChange("the same policy", h, () -> h.setPolicy(0), false);
        PhoneMemory i = roomy(2);
        isChange("another policy", i, () -> i.setPolicy(1), true);
        PhoneMemory j = roomy(2);
        isChange("send of a sixth one", j, () -> j.send(0, 5), false);
    }

    private static void latestTenChanges() {
        Check.sentence("The latest 10 changes can be undone, the latest first.");
        for (int count : new int[] {0, 1, 9, 10, 11, 19, 20, 21, 33}) {
            PhoneMemory x = roomy(1);
            for (int i = 1; i <= count; i++) {
                x.setLimit(100 + i);
                Check.equal("changes behind " + i, Math.min(10, i), x.size(8));
            }
            int left = Math.min(10, count);
            for (int i = count; left > 0; i--) {
                left--;
                Check.equal("left of " + count, left, x.undo());
                Check.equal("size of the history of " + count, left, x.size(8));
                Check.equal("limit behind undo of " + i, i == 1 ? 2000 : 100 + i - 1, x.size(1));
            }
            Check.equal("no more of " + count, -1, x.undo());
            Check.equal("limit stays", count == 0 ? 2000 : count <= 10 ? 2000 : 100 + count - 10, x.size(1));
            x.setLimit(77);
            Check.equal("a change behind it", 0, x.undo());
        }
        // undo and changes by turns: the history goes round more than once
        PhoneMemory y = roomy(1);
        int limit = 2000;
        for (int i = 0; i < 40; i++) {
            y.setLimit(100 + 2 * i);
            y.setLimit(101 + 2 * i);
            y.undo();
            Check.equal("changes " + i, Math.min(9, i) + (i < 9 ? 1 : 0), y.size(8));
            limit = 100 + 2 * i;
            Check.equal("limit " + i, limit, y.size(1));
        }
        for (int i = 38; i >= 30; i--) {
            y.undo();
            Check.equal("limit behind undo, " + i, 100 + 2 * i, y.size(1));
        }
        Check.equal("none any more", -1, y.undo());
    }

    private static void whatIsNoChange() {
        Check.sentence("The methods from show to setPolicy are changes if they throw no exception,");
        PhoneMemory x = Check.phone(TIGHT);
        x.show(0);
        x.pass(1);
        Check.append(x, "a");
        x.find();
        Check.append(x, "phone");
        x.parse(5);
        Check.all(x);
        x.waitsFor(0, 0, 1, 0);
        x.trimsFor(1);
        x.victim(6);
        x.freed(6);
        x.saveSnapshot(0);
        Check.equal("nothing of this is a change", 2, x.size(8));
        Check.noIndex("show", () -> x.show(2));
        Check.noArgument("pass", () -> x.pass(0));
        Check.noArgument("touch", () -> x.touch(1000));
        Check.noArgument("send", () -> x.send(0, 1000));
        Check.noState("read", () -> x.read());
        Check.noIndex("pin", () -> x.pin(2, true) ? 1 : 0);
        Check.noState("trim", () -> x.trim(5));
        Check.noState("close", () -> x.close(1));
        Check.noArgument("setLimit", () -> x.setLimit(49));
        Check.noArgument("setPolicy", () -> x.setPolicy(3));
        Check.equal("and nothing of that", 2, x.size(8));
        Check.equal("undo is none either", 1, x.undo());
        Check.equal("one is left", 1, x.size(8));
    }

    private static void twoSlots() {
        Check.sentence("There are two snapshot slots, 0 and 1;");
        PhoneMemory x = roomy(1);
        x.pass(1);
        Check.equal("first of 0", false, x.saveSnapshot(0));
        Check.noState("1 is empty", () -> x.restoreSnapshot(1));
        x.pass(1);
        Check.equal("first of 1", false, x.saveSnapshot(1));
        x.pass(1);
        Check.equal("slot 0", 1, x.restoreSnapshot(0));
        Check.equal("slot 1", 2, x.restoreSnapshot(1));
        Check.equal("slot 0 again", 1, x.restoreSnapshot(0));
        Check.equal("in place of 0", true, x.saveSnapshot(1));
        Check.equal("slot 1 is the same then", 1, x.restoreSnapshot(1));
    }

    private static void snapshotHoldsAll() {
        Check.sentence("a snapshot holds everything that changes can change, the log and what is counted in it, too.");
        for (int run = 1; run <= 20; run++) {
            PhoneMemory x = Check.phone(TIGHT);
            x.show(run % 2);
            x.touch(run);
            x.pass(run);
            x.show(1 - run % 2);
            x.send(run % 2, 3);
            x.pin(0, run % 3 == 0);
            x.setPolicy(run % 3);
            x.pass(70);
            String saved = Check.all(x);
            x.saveSnapshot(run % 2);
            x.setPolicy((run + 1) % 3);
            x.pin(0, run % 3 != 0);
            x.setLimit(500);
            x.show(0);
            x.touch(9);
            x.show(1);
            x.send(0, 4);
            x.pass(100);
            x.close(1);
            x.setLimit(90);
            Check.equal("altered in run " + run, 90, x.size(1));
            x.restoreSnapshot(run % 2);
            Check.equal("restored in run " + run, true, saved.equals(Check.all(x)));
        }
    }

    private static void parseClears() {
        Check.sentence("A successful parse clears the undo history and empties both slots.");
        PhoneMemory x = Check.phone(TIGHT);
        for (int i = 0; i < 12; i++) {
            x.pass(1);
        }
        x.saveSnapshot(0);
        x.saveSnapshot(1);
        Check.equal("parse", 0, Check.parse(x, TIGHT));
        Check.equal("no changes", 0, x.size(8));
        Check.equal("no undo", -1, x.undo());
        Check.noState("slot 0", () -> x.restoreSnapshot(0));
        Check.noState("slot 1", () -> x.restoreSnapshot(1));
        x.pass(5);
        Check.equal("the first one of slot 1", false, x.saveSnapshot(1));
        Check.noState("slot 0 is still empty", () -> x.restoreSnapshot(0));
        Check.equal("undo goes to the new phone", 0, x.undo());
        Check.equal("minute", 0, x.size(3));
        Check.equal("slot 1", 5, x.restoreSnapshot(1));
    }

    /** The shown one and a resting one, nine changes, a snapshot, an error and a name in the buffer. */
    private static PhoneMemory busy() {
        PhoneMemory x = Check.phone(TIGHT);
        x.show(0);
        x.touch(3);
        x.pass(7);
        x.show(1);
        x.saveSnapshot(0);
        x.send(0, 11);
        x.pin(1, true);
        x.pin(0, true);
        x.pass(5);
        x.touch(8);
        Check.parse(x, "phone 5;");
        Check.append(x, "b");
        return x;
    }

    private static void changesNothing(String call, Class<? extends RuntimeException> due, PhoneMemory x, Check.Call throwing) {
        PhoneMemory other = busy();
        Check.throwing(call, due, throwing);
        Check.equal(call + ": changes", other.size(8), x.size(8));
        Check.equal(call + ": position", 6, x.errorPosition());
        Check.equal(call + ": buffer", 1, x.find());
        Check.equal(call + ": all", true, Check.all(other).equals(Check.all(x)));
        Check.equal(call + ": undo", other.undo(), x.undo());
        Check.equal(call + ": all behind undo", true, Check.all(other).equals(Check.all(x)));
        Check.equal(call + ": slot 0", 7, x.restoreSnapshot(0));
        Check.noState(call + ": slot 1", () -> x.restoreSnapshot(1));
    }

    private interface Call {
        long on(PhoneMemory x);
    }

    private static void changesNothing(String call, Class<? extends RuntimeException> due, Call throwing) {
        PhoneMemory x = busy();
        changesNothing(call, due, x, () -> throwing.on(x));
    }

    private static void exceptionsChangeNothing() {
        Check.sentence("A method that throws an exception changes nothing.");
        Class<IllegalArgumentException> argument = IllegalArgumentException.class;
        Class<IllegalStateException> state = IllegalStateException.class;
        Class<IndexOutOfBoundsException> index = IndexOutOfBoundsException.class;
        changesNothing("parse(-1)", argument, x -> x.parse(-1));
        changesNothing("parse(21)", argument, x -> x.parse(21));
        changesNothing("size(9)", argument, x -> x.size(9));
        changesNothing("program(2, 0)", index, x -> x.program(2, 0));
        changesNothing("program(0, 8)", argument, x -> x.program(0, 8));
        changesNothing("victim(7)", argument, x -> x.victim(7));
        changesNothing("freed(0)", argument, x -> x.freed(0));
        changesNothing("waitsFor(3)", argument, x -> x.waitsFor(3, 0, 1, 0));
        changesNothing("waitsFor(0, 0, 1, 2)", index, x -> x.waitsFor(0, 0, 1, 2));
        changesNothing("log(0, 3)", argument, x -> x.log(0, 3));
        changesNothing("account(10)", argument, x -> x.account(10));
        changesNothing("show(2)", index, x -> x.show(2));
        changesNothing("show(0)", state, x -> x.show(0));
        changesNothing("pass(0)", argument, x -> x.pass(0));
        changesNothing("pass(241)", argument, x -> x.pass(241));
        changesNothing("touch(-1)", argument, x -> x.touch(-1));
        changesNothing("touch(1000)", argument, x -> x.touch(1000));
        changesNothing("send(2, 1)", index, x -> x.send(2, 1));
        changesNothing("send(0, 1000)", argument, x -> x.send(0, 1000));
        changesNothing("read()", state, x -> x.read());
        changesNothing("pin(-1)", index, x -> x.pin(-1, false) ? 1 : 0);
        changesNothing("trim(7)", argument, x -> x.trim(7));
        changesNothing("trim(3)", state, x -> x.trim(3));
        changesNothing("close(2)", index, x -> x.close(2));
        changesNothing("setLimit(49)", argument, x -> x.setLimit(49));
        changesNothing("setLimit(2001)", argument, x -> x.setLimit(2001));
        changesNothing("setLimit(50)", state, x -> x.setLimit(50));
        changesNothing("setPolicy(3)", argument, x -> x.setPolicy(3));
        changesNothing("saveSnapshot(2)", index, x -> x.saveSnapshot(2) ? 1 : 0);
        changesNothing("restoreSnapshot(-1)", index, x -> x.restoreSnapshot(-1));
        changesNothing("restoreSnapshot(1)", state, x -> x.restoreSnapshot(1));
    }

    /** Each call that takes a program, with other arguments that would cause another exception. */
    private static void missing(PhoneMemory x, int p) {
        String of = " of " + p + " with " + x.size(0) + " programs";
        Check.noIndex("program" + of, () -> x.program(p, 0));
        Check.noIndex("program before what" + of, () -> x.program(p, 8));
        Check.noIndex("told" + of, () -> x.told(p, 0));
        Check.noIndex("told before what" + of, () -> x.told(p, -1));
        Check.noIndex("picture" + of, () -> x.picture(p));
        Check.noIndex("notice" + of, () -> x.notice(p, -1));
        Check.noIndex("habit" + of, () -> x.habit(p));
        Check.noIndex("promise" + of, () -> x.promise(p));
        Check.noIndex("followed" + of, () -> x.followed(p, p));
        Check.noIndex("likeliest" + of, () -> x.likeliest(p));
        Check.noIndex("waitOf" + of, () -> x.waitOf(p));
        Check.noIndex("whyNotShow" + of, () -> x.whyNotShow(p));
        Check.noIndex("trimsFor" + of, () -> x.trimsFor(p));
        Check.noIndex("stateAfter" + of, () -> x.stateAfter(p, p));
        Check.noIndex("waitsFor before policy" + of, () -> x.waitsFor(-1, p, p, p));
        Check.noIndex("show" + of, () -> x.show(p));
        Check.noIndex("send" + of, () -> x.send(p, 0));
        Check.noIndex("send before notice" + of, () -> x.send(p, 1000));
        Check.noIndex("pin" + of, () -> x.pin(p, true) ? 1 : 0);
        Check.noIndex("close" + of, () -> x.close(p));
        if (x.size(0) > 0) {
            Check.noIndex("first" + of, () -> x.followed(p, 0));
            Check.noIndex("following" + of, () -> x.followed(0, p));
            Check.noIndex("shown" + of, () -> x.stateAfter(p, 0));
            Check.noIndex("program of stateAfter" + of, () -> x.stateAfter(0, p));
            Check.noIndex("first of waitsFor" + of, () -> x.waitsFor(3, p, 0, 0));
            Check.noIndex("second of waitsFor" + of, () -> x.waitsFor(3, 0, p, 0));
            Check.noIndex("third of waitsFor" + of, () -> x.waitsFor(3, 0, 0, p));
        }
    }

    private static void missingPrograms() {
        Check.sentence("Unless something else is said, a program or slot that does not exist causes an IndexOutOfBoundsException, which "
            + "is checked before any other exception.");
        missing(new PhoneMemory(), 0);
        missing(new PhoneMemory(), -1);
        for (int count : new int[] {0, 1, 2, 9, 10}) {
            PhoneMemory x = roomy(count);
            missing(x, count);
            missing(x, count + 1);
            for (int p : FAR_OFF) {
                missing(x, p);
            }
            Check.equal("nothing has changed", 0, x.size(8));
        }
        PhoneMemory y = roomy(10);
        Check.equal("the tenth one is there", 200, y.show(9));
        Check.equal("its state", 1, y.program(9, 0));
        Check.equal("its notice", -1, y.notice(9, 0));
        Check.equal("the others", 0, y.stateAfter(9, 8));
        Check.equal("its waits", 20 + 200, y.waitsFor(2, 9, 8, 9));
        Check.equal("closed", 25, y.close(9));
        // a refused showing would throw another exception, but there is no such program
        PhoneMemory z = Check.phone("phone 50;program a 51 0 0 51 50 1 9999;");
        Check.noState("refused", () -> z.show(0));
        missing(z, 1);
    }

    private static void missingSlots() {
        Check.sentence("Throws `IndexOutOfBoundsException` if there is no such slot (checked first)");
        PhoneMemory x = roomy(1);
        for (int round = 0; round < 2; round++) {
            for (int slot : FAR_OFF) {
                Check.noIndex("save " + slot, () -> x.saveSnapshot(slot) ? 1 : 0);
                Check.noIndex("restore " + slot, () -> x.restoreSnapshot(slot));
            }
            Check.noIndex("save 2", () -> x.saveSnapshot(2) ? 1 : 0);
            Check.noIndex("restore 2", () -> x.restoreSnapshot(2));
            Check.equal("save 0", round == 1, x.saveSnapshot(0));
            Check.equal("save 1", round == 1, x.saveSnapshot(1));
        }
    }

    // ---- promises 7 to 14

    private static void propertiesThatAre0() {
        Check.sentence("1 its pages (0 if it is closed or saved), 2 pages of its cache (0 if it is closed, zipped or saved),");
        PhoneMemory x = roomy(1);
        int[][] rows = {{0, 0}, {20, 5}, {20, 5}, {20, 5}, {20, 0}, {0, 0}, {0, 0}};
        for (int i = 0; i < rows.length; i++) {
            Check.equal("pages in step " + i, rows[i][0], x.program(0, 1));
            Check.equal("cache in step " + i, rows[i][1], x.program(0, 2));
            switch (i) {
                case 0: x.show(0); break;
                case 1: x.home(); break;
                case 2: x.trim(3); break;
                case 3: x.trim(2); break;
                case 4: x.trim(4); break;
                case 5: x.trim(5); break;
                default: break;
            }
        }
        for (int state = 1; state <= 4; state++) {
            PhoneMemory y = roomy(1);
            y.show(0);
            int[] kinds = {3, 2, 4};
            for (int i = 0; i < state - 1; i++) {
                y.home();
                y.trim(kinds[i]);
            }
            y.close(0);
            for (int what = 0; what <= 3; what++) {
                Check.equal("property " + what + " closed from " + state, 0, y.program(0, what));
            }
        }
    }

    private static void propertyOutOfRange() {
        Check.sentence("Throws `IllegalArgumentException` if what is out of range");
        PhoneMemory x = roomy(10);
        for (int what : FAR_OFF) {
            Check.noArgument("program(0, " + what + ")", () -> x.program(0, what));
            Check.noArgument("told(0, " + what + ")", () -> x.told(0, what));
            Check.noArgument("size(" + what + ")", () -> x.size(what));
        }
        Check.noArgument("program(9, 8)", () -> x.program(9, 8));
        Check.noArgument("told(9, 8)", () -> x.told(9, 8));
        Check.equal("program(9, 7)", 0, x.program(9, 7));
        Check.equal("told(9, 7)", 0, x.told(9, 7));
    }

    private static void toldWithoutWork() {
        Check.sentence("7 every (0 without work)");
        PhoneMemory x = Check.phone("phone 50;" + programs(3, "1 0 0 1 50 1 1") + "work b 60;");
        int[] every = {0, 60, 0};
        for (int p = 0; p < 3; p++) {
            Check.equal("every of " + p, every[p], x.told(p, 7));
        }
        for (int i = 0; i < 2; i++) {
            Check.parse(x, "phone 50;" + programs(3, "1 0 0 1 50 1 1"));
            Check.equal("without work now", 0, x.told(1, 7));
        }
    }

    private static void toldOutOfRange() {
        Check.sentence("Returns a number that the text tells of a program.");
        int[] told = {40, 10, 2, 60, 50, 5, 1000, 2};
        PhoneMemory x = Check.phone(TIGHT);
        x.show(0);
        x.pass(9);
        x.trim(6);
        for (int what = 0; what < 8; what++) {
            Check.equal("told " + what, told[what], x.told(0, what));
        }
    }

    private static void noticeNone() {
        Check.sentence("Returns the notice; NONE if there are not so many, or k is negative.");
        PhoneMemory x = roomy(2);
        Check.equal("closed", -1, x.notice(0, 0));
        x.show(0);
        x.show(1);
        for (int waiting = 0; waiting <= 5; waiting++) {
            for (int k = 0; k <= 6; k++) {
                Check.equal("notice " + k + " of " + waiting, k < waiting ? 10 * k : -1, x.notice(0, k));
            }
            for (int k : FAR_OFF) {
                Check.equal("notice " + k + " of " + waiting, -1, x.notice(0, k));
            }
            x.send(0, 10 * waiting);
        }
        Check.equal("none of the other one", -1, x.notice(1, 0));
    }

    private static void followedMissing() {
        Check.sentence("Throws `IndexOutOfBoundsException` if one of the programs does not exist");
        PhoneMemory x = roomy(2);
        Check.noIndex("following 2", () -> x.followed(0, 2));
        Check.noIndex("first 2", () -> x.followed(2, 0));
        Check.noIndex("shown 2", () -> x.stateAfter(2, 0));
        Check.noIndex("program 2", () -> x.stateAfter(0, 2));
        Check.equal("both exist", 0, x.followed(0, 1));
        Check.equal("both exist, stateAfter", 0, x.stateAfter(0, 1));
        PhoneMemory y = roomy(10);
        y.show(9);
        y.show(0);
        y.show(9);
        Check.equal("the last one behind the first", 1, y.followed(0, 9));
        Check.equal("the first one behind the last", 1, y.followed(9, 0));
    }

    private static void likeliestOfSeveral() {
        Check.sentence("Returns the program, of several the smallest number;");
        PhoneMemory x = roomy(10);
        for (int p = 9; p >= 1; p--) {
            x.show(0);
            x.show(p);
            Check.equal("all once, down to " + p, p, x.likeliest(0));
        }
        x.show(0);
        x.show(9);
        Check.equal("twice", 9, x.likeliest(0));
        x.show(0);
        x.show(4);
        Check.equal("both twice", 4, x.likeliest(0));
        for (int p = 1; p <= 9; p++) {
            Check.equal("behind " + p, 0, x.likeliest(p));
        }
    }

    private static void likeliestNone() {
        Check.sentence("NONE if none ever did.");
        PhoneMemory x = roomy(10);
        for (int p = 0; p < 10; p++) {
            Check.equal("at first, " + p, -1, x.likeliest(p));
        }
        x.show(9);
        Check.equal("the only one that was shown", -1, x.likeliest(9));
        x.close(9);
        x.show(9);
        Check.equal("it does not follow itself", -1, x.likeliest(9));
        x.show(8);
        Check.equal("behind 9", 8, x.likeliest(9));
        Check.equal("behind the last one", -1, x.likeliest(8));
    }

    // ---- promises 15 to 23

    private static void victimNone() {
        Check.sentence("Returns the program; NONE if none can have it.");
        PhoneMemory x = roomy(10);
        for (int kind = 1; kind <= 6; kind++) {
            Check.equal("all are closed, " + kind, -1, x.victim(kind));
        }
        x.show(9);
        int[] shown = {-1, -1, -1, -1, -1, 9};
        for (int kind = 1; kind <= 6; kind++) {
            Check.equal("the tenth one is shown, " + kind, shown[kind - 1], x.victim(kind));
        }
        x.home();
        int[] resting = {9, -1, 9, -1, -1, -1};
        for (int kind = 1; kind <= 6; kind++) {
            Check.equal("the tenth one rests, " + kind, resting[kind - 1], x.victim(kind));
        }
    }

    private static void stepKindOutOfRange() {
        Check.sentence("Throws `IllegalArgumentException` if kind is out of range");
        PhoneMemory x = roomy(10);
        for (int p = 0; p < 10; p++) {
            x.show(p);
        }
        for (int i = 0; i < 2; i++) {
            for (int kind : FAR_OFF) {
                Check.noArgument("victim " + kind, () -> x.victim(kind));
                Check.noArgument("freed " + kind, () -> x.freed(kind));
                Check.noArgument("trim " + kind, () -> x.trim(kind));
                Check.noArgument("account " + kind, () -> x.account(kind));
            }
            for (int kind : new int[] {0, 7}) {
                Check.noArgument("victim " + kind, () -> x.victim(kind));
                Check.noArgument("freed " + kind, () -> x.freed(kind));
                Check.noArgument("trim " + kind, () -> x.trim(kind));
            }
            Check.parse(x, "phone 50;");
        }
        Check.equal("nothing has changed", 0, x.size(8));
    }

    private static void freedBelow0() {
        Check.sentence("Returns the number of pages (below 0 if they would use more, perhaps because screen is more than what it uses);");
        int[][] rows = {{10, 100, -90}, {50, 100, -50}, {99, 100, -1}, {100, 100, 0}, {100, 99, 1}, {10, 10, 0}, {10, 11, -1}, {50, 1, 49}};
        for (int[] row : rows) {
            PhoneMemory x = Check.phone("phone 2000;program a 100 0 0 100 " + row[0] + " " + row[1] + " 9999;");
            x.show(0);
            x.home();
            x.trim(3);
            Check.equal("zip by ratio " + row[0], 100 - row[0], x.freed(2));
            x.trim(2);
            Check.equal("save by ratio " + row[0] + " and screen " + row[1], row[2], x.freed(4));
            int used = x.size(2);
            x.trim(4);
            Check.equal("saved by ratio " + row[0] + " and screen " + row[1], row[2], used - x.size(2));
            Check.equal("close by screen " + row[1], row[1], x.freed(5));
        }
        // even if it would be refused
        PhoneMemory y = Check.phone("phone 100;program a 100 0 0 100 10 100 9999;program b 90 0 0 90 50 1 9999;");
        y.show(0);
        y.show(1);
        Check.equal("full", 100, y.size(2));
        Check.equal("more than limit", -90, y.freed(4));
        Check.noState("so it is refused", () -> y.trim(4));
    }

    private static void freedNone() {
        Check.sentence("0 if no program can have the step.");
        PhoneMemory x = roomy(10);
        for (int kind = 1; kind <= 6; kind++) {
            Check.equal("all are closed, " + kind, 0, x.freed(kind));
        }
        x.show(9);
        int[] shown = {0, 0, 0, 0, 0, 5};
        for (int kind = 1; kind <= 6; kind++) {
            Check.equal("one is shown, " + kind, shown[kind - 1], x.freed(kind));
        }
        x.home();
        int[] resting = {5, 0, 0, 0, 0, 0};
        for (int kind = 1; kind <= 6; kind++) {
            Check.equal("one rests, " + kind, resting[kind - 1], x.freed(kind));
        }
        Check.equal("freezing can be had", 9, x.victim(3));
        x.pin(9, true);
        Check.equal("pinned, not any more", -1, x.victim(3));
        Check.equal("its cache can go", 5, x.freed(1));
    }

    private static void waitOfTheShownOne() {
        Check.sentence("Returns the wait; 0 if it is shown.");
        PhoneMemory x = roomy(2);
        Check.equal("closed", 200, x.waitOf(0));
        x.show(0);
        Check.equal("shown", 0, x.waitOf(0));
        Check.equal("the other one", 200, x.waitOf(1));
        x.show(1);
        Check.equal("resting", 20, x.waitOf(0));
        Check.equal("the other one is shown", 0, x.waitOf(1));
    }

    private static void whyNotShow1() {
        Check.sentence("1 if its pages without its cache, as it would have them, are more than limit;");
        for (int base : new int[] {49, 50, 51, 400}) {
            PhoneMemory x = Check.phone("phone 50;program a " + base + " 200 0 400 50 1 9999;");
            Check.equal("closed with " + base + " pages", base > 50 ? 1 : 0, x.whyNotShow(0));
        }
        for (int limit : new int[] {40, 79, 80, 81}) {
            PhoneMemory x = Check.phone("phone 2000;program a 60 9 20 80 10 5 9999;");
            x.show(0);
            x.pass(1);
            x.home();
            x.trim(3);
            x.trim(2);
            x.setLimit(Math.max(50, limit));
            Check.equal("zipped, 80 of " + limit, limit < 80 ? 1 : 0, x.whyNotShow(0));
            x.trim(4);
            Check.equal("saved, 60 of " + limit, limit < 60 ? 1 : 0, x.whyNotShow(0));
            x.close(0);
            Check.equal("closed, 60 of " + limit, limit < 60 ? 1 : 0, x.whyNotShow(0));
        }
        // it is refused for two reasons
        PhoneMemory y = Check.phone("phone 50;program a 51 0 0 51 50 1 9999;program b 50 0 0 50 50 1 9999;");
        y.show(1);
        y.pin(1, true);
        Check.equal("more than limit, and no place", 1, y.whyNotShow(0));
    }

    private static void whyNotShow0() {
        Check.sentence("Returns 0 if it can (also if it is shown);");
        PhoneMemory x = Check.phone("phone 50;program a 50 10 0 50 50 1 9999;program b 30 0 0 30 50 1 9999;");
        Check.equal("it can without its cache", 0, x.whyNotShow(0));
        x.show(0);
        Check.equal("it is shown", 0, x.whyNotShow(0));
        x.pin(0, true);
        Check.equal("it is shown and pinned", 0, x.whyNotShow(0));
        Check.equal("it can not be moved away", 2, x.whyNotShow(1));
        x.home();
        Check.equal("it rests", 0, x.whyNotShow(0));
        x.pin(0, false);
        Check.equal("it can be moved away", 0, x.whyNotShow(1));
    }

    private static void whyNotShow2() {
        Check.sentence("otherwise 2 if it would be refused.");
        PhoneMemory x = Check.phone("phone 80;program a 30 0 0 30 50 1 9999;program b 50 0 0 50 50 1 9999;program c 51 0 0 51 50 1 9999;");
        x.show(0);
        x.pin(0, true);
        Check.equal("just limit", 0, x.whyNotShow(1));
        Check.equal("one page more", 2, x.whyNotShow(2));
        Check.equal("and so it would be refused", -1, x.trimsFor(2));
        x.pin(0, false);
        Check.equal("not pinned", 0, x.whyNotShow(2));
        x.pin(0, true);
        x.setLimit(51);
        Check.equal("its pages are just limit", 2, x.whyNotShow(2));
        x.setLimit(50);
        Check.equal("its pages are more than limit", 1, x.whyNotShow(2));
        x.setLimit(80);
        x.show(1);
        x.pin(1, true);
        Check.equal("two are pinned", 2, x.whyNotShow(2));
    }

    private static void trimsForNone() {
        Check.sentence("Returns the number; 0 if it is shown; NONE if it would be refused.");
        PhoneMemory x = Check.phone("phone 80;program a 30 0 0 30 50 1 9999;program b 50 5 0 50 50 1 9999;program c 51 9 0 51 50 1 9999;");
        x.show(0);
        Check.equal("shown", 0, x.trimsFor(0));
        Check.equal("a frozen and zipped", 2, x.trimsFor(1));
        x.pin(0, true);
        Check.equal("its own cache", 1, x.trimsFor(1));
        Check.equal("refused", -1, x.trimsFor(2));
        Check.equal("no entry", 1, x.account(7) + x.account(6));
        Check.equal("no change", 2, x.size(8));
    }

    private static void stateAfterNone() {
        Check.sentence("Returns the state that a program would have if another one (or the same) was shown now.");
        PhoneMemory x = Check.phone("phone 80;program a 30 0 0 30 50 1 9999;program b 60 5 0 60 50 1 9999;program c 81 9 0 81 50 1 9999;");
        Check.equal("the same", 1, x.stateAfter(0, 0));
        Check.equal("it would be refused itself", -1, x.stateAfter(2, 2));
        Check.equal("another one, refused", -1, x.stateAfter(2, 0));
        x.show(0);
        Check.equal("shown already", 1, x.stateAfter(0, 0));
        Check.equal("another one that is closed", 0, x.stateAfter(0, 1));
        Check.equal("zipped for b", 4, x.stateAfter(1, 0));
        x.pin(0, true);
        Check.equal("refused, as a is pinned", -1, x.stateAfter(1, 0));
        Check.equal("b itself", -1, x.stateAfter(1, 1));
        Check.equal("what is shown already is not refused", 1, x.stateAfter(0, 0));
    }

    private static int steps(PhoneMemory x) {
        int sum = 0;
        for (int kind = 1; kind <= 6; kind++) {
            sum += x.account(kind);
        }
        return sum;
    }

    private static void questionsTellWhatShowDoes() {
        Check.sentence("Returns how many trim steps would be done if a program was shown now.");
        for (int run = 1; run <= 40; run++) {
            for (int p = 0; p < 10; p++) {
                PhoneMemory x = Runs.phone(run, 70);
                String of = " of " + p + " in run " + run;
                int program = p;
                int wait = x.waitOf(p);
                int why = x.whyNotShow(p);
                int trims = x.trimsFor(p);
                List<Integer> states = new ArrayList<>();
                for (int q = 0; q < 10; q++) {
                    states.add(x.stateAfter(p, q));
                }
                int before = steps(x);
                Check.equal("whyNotShow and trimsFor" + of, why != 0, trims < 0);
                if (why != 0) {
                    Check.noState("show" + of, () -> x.show(program));
                } else {
                    Check.equal("show" + of, wait, x.show(p));
                    Check.equal("steps" + of, trims, steps(x) - before);
                }
                for (int q = 0; q < 10; q++) {
                    Check.equal("state of " + q + " behind show" + of, why != 0 ? -1 : x.program(q, 0), states.get(q));
                }
            }
        }
    }

    private static void questionsTellWhatTrimDoes() {
        Check.sentence("Returns how many pages less all programs would use behind the next step of a kind.");
        for (int run = 1; run <= 40; run++) {
            for (int kind = 1; kind <= 6; kind++) {
                PhoneMemory x = Runs.phone(run, 90);
                String of = " of " + kind + " in run " + run;
                int step = kind;
                int victim = x.victim(kind);
                int freed = x.freed(kind);
                int used = x.size(2);
                if (victim < 0 || used - freed > x.size(1)) {
                    Check.noState("trim" + of, () -> x.trim(step));
                } else {
                    Check.equal("trim" + of, victim, x.trim(kind));
                    Check.equal("freed" + of, freed, used - x.size(2));
                }
            }
        }
    }

    private static void waitsForRefused() {
        Check.sentence("Returns the sum of the waits; a program that would be refused adds 0 (and the next one is shown then).");
        String text = "phone 80;program a 30 0 0 30 50 1 9999;program b 60 0 0 60 50 1 9999;program c 20 0 0 20 50 1 9999;"
            + "program d 81 0 0 81 50 1 9999;";
        PhoneMemory x = Check.phone(text);
        x.show(0);
        x.pin(0, true);
        for (int policy = 0; policy <= 2; policy++) {
            Check.equal("all three are refused", 0, x.waitsFor(policy, 1, 3, 1));
            Check.equal("the first one", 200, x.waitsFor(policy, 1, 2, 2));
            Check.equal("the second one", 200 + 20, x.waitsFor(policy, 2, 1, 0));
            Check.equal("the third one", 200 + 20, x.waitsFor(policy, 2, 0, 3));
            Check.equal("what is shown adds 0", 200, x.waitsFor(policy, 0, 0, 2));
            Check.equal("and it is shown still, behind a refused one", 200, x.waitsFor(policy, 3, 0, 2));
        }
        Check.equal("nothing has changed", 2, x.size(8));
        Check.equal("policy", 0, x.size(6));
        // refused with b shown would leave b shown: b adds 0 then
        PhoneMemory y = Check.phone(text);
        Check.equal("new, refused, shown already", 600, y.waitsFor(1, 1, 3, 1));
        Check.equal("three in turn", 600 + 300 + (20 + 2 * 60), y.waitsFor(1, 1, 0, 1));
    }

    private static void waitsForTellsWhatShowingDoes() {
        Check.sentence("Returns the sum of the waits if three programs were shown one after the other, without any time between, with a "
            + "policy.");
        for (int run = 1; run <= 150; run++) {
            PhoneMemory x = Runs.phone(run % 50 + 1, 70);
            int policy = run % 3;
            int[] programs = {run % 10, run * 7 % 10, run * 3 / 10 % 10};
            int sum = x.waitsFor(policy, programs[0], programs[1], programs[2]);
            x.setPolicy(policy);
            for (int program : programs) {
                sum -= x.whyNotShow(program) == 0 ? x.show(program) : 0;
            }
            Check.equal("waits in run " + run, 0, sum);
        }
    }

    private static void waitsForPolicyOutOfRange() {
        Check.sentence("Throws `IllegalArgumentException` if policy is out of range");
        PhoneMemory x = roomy(1);
        for (int policy : FAR_OFF) {
            Check.noArgument("waitsFor " + policy, () -> x.waitsFor(policy, 0, 0, 0));
            Check.noArgument("setPolicy " + policy, () -> x.setPolicy(policy));
        }
        Check.noArgument("waitsFor 3", () -> x.waitsFor(3, 0, 0, 0));
        Check.noArgument("setPolicy 3", () -> x.setPolicy(3));
        for (int policy = 0; policy <= 2; policy++) {
            Check.equal("waitsFor " + policy, 200, x.waitsFor(policy, 0, 0, 0));
        }
    }

    private static void logNone() {
        Check.sentence("Returns the part; NONE if there are not so many entries, or k is negative.");
        PhoneMemory x = roomy(2);
        for (int entries = 0; entries <= 3; entries++) {
            for (int part = 0; part <= 2; part++) {
                for (int k : FAR_OFF) {
                    Check.equal("entry " + k, -1, x.log(k, part));
                }
                Check.equal("entry " + entries + " of as many", -1, x.log(entries, part));
                Check.equal("the first entry", true, entries == 0 || x.log(entries - 1, part) >= 0);
            }
            x.show(entries % 2);
        }
    }

    private static void logPartOutOfRange() {
        Check.sentence("Throws `IllegalArgumentException` if part is out of range");
        PhoneMemory x = roomy(2);
        for (int i = 0; i < 2; i++) {
            for (int part : FAR_OFF) {
                Check.noArgument("part " + part, () -> x.log(0, part));
                Check.noArgument("part " + part + " of entry -1", () -> x.log(-1, part));
            }
            Check.noArgument("part 3", () -> x.log(0, 3));
            Check.noArgument("part 3 of no entry", () -> x.log(24, 3));
            x.show(i);
        }
    }

    private static void accountOutOfRange() {
        Check.sentence("`kind`: 1 to 9, as in the log");
        PhoneMemory x = roomy(2);
        for (int kind : FAR_OFF) {
            Check.noArgument("kind " + kind, () -> x.account(kind));
        }
        Check.noArgument("kind 0", () -> x.account(0));
        Check.noArgument("kind 10", () -> x.account(10));
        for (int kind = 1; kind <= 9; kind++) {
            Check.equal("kind " + kind, 0, x.account(kind));
        }
    }

    private static void accountCountsAll() {
        Check.sentence("Counts steps and other things since parse.");
        PhoneMemory x = Check.phone("phone 50;program a 50 0 1 60 50 1 0;");
        x.show(0);
        for (int i = 1; i <= 20; i++) {
            x.pass(240);
            Check.equal("refused pages", 240 * i, x.account(9));
        }
        for (int i = 2; i <= 30; i++) {
            x.home();
            x.show(0);
            Check.equal("showings", i, x.account(7));
            Check.equal("complaints", i, x.account(8));
        }
        Check.parse(x, "phone 50;program a 50 0 1 60 50 1 0;");
        for (int kind = 1; kind <= 9; kind++) {
            Check.equal("since parse, kind " + kind, 0, x.account(kind));
        }
    }

    // ---- promises 24 to 34

    private static void showAgain() {
        Check.sentence("Shows a program. (Nothing happens if it is shown already.)");
        PhoneMemory x = Check.phone("phone 100;costs 10 2 5 99;program a 50 5 0 50 50 1 0;program b 45 0 0 45 50 1 0;");
        x.show(1);
        x.show(0);
        x.touch(5);
        x.pass(3);
        String before = Check.all(x);
        Check.equal("again", 0, x.show(0));
        Check.equal("and again", 0, x.show(0));
        Check.equal("nothing has happened", true, before.equals(Check.all(x)));
        Check.equal("two changes, though", 6, x.size(8));
    }

    private static void showRefused() {
        Check.sentence("Throws `IllegalStateException` if it is refused");
        PhoneMemory x = Check.phone("phone 80;program a 30 0 0 30 50 1 9999;program b 50 0 0 50 50 1 9999;program c 51 0 0 51 50 1 9999;");
        x.show(0);
        x.pin(0, true);
        Check.noState("one page too many", () -> x.show(2));
        Check.equal("as before", 0, x.size(4));
        Check.equal("just limit", 500, x.show(1));
        Check.equal("used", 80, x.size(2));
        PhoneMemory y = Check.phone("phone 50;program a 51 0 0 51 50 1 9999;");
        Check.noState("alone and too great", () -> y.show(0));
        Check.equal("none is shown", -1, y.size(4));
        Check.equal("none was shown", -1, y.size(5));
        Check.equal("none is used", 0, y.size(2));
    }

    private static void homeNone() {
        Check.sentence("Returns the program; NONE if none is shown.");
        PhoneMemory x = roomy(10);
        Check.equal("none was shown", -1, x.home());
        x.show(9);
        Check.equal("the tenth one", 9, x.home());
        Check.equal("none is shown any more", -1, x.home());
        x.show(0);
        x.close(0);
        Check.equal("it was closed", -1, x.home());
        Check.equal("closed it stays", 0, x.program(0, 0));
    }

    private static void passFrom1To240() {
        Check.sentence("`minutes`: 1 to 240");
        PhoneMemory x = roomy(1);
        for (int minutes : new int[] {0, 241, 242, 1000}) {
            Check.noArgument("pass " + minutes, () -> x.pass(minutes));
        }
        for (int minutes : FAR_OFF) {
            Check.noArgument("pass " + minutes, () -> x.pass(minutes));
        }
        Check.equal("no time", 0, x.size(3));
        Check.equal("1", 0, x.pass(1));
        Check.equal("a minute", 1, x.size(3));
        Check.equal("240", 0, x.pass(240));
        Check.equal("241 minutes", 241, x.size(3));
        // 240 minutes at once and one by one
        for (int run = 1; run <= 10; run++) {
            PhoneMemory once = Runs.phone(run, 40);
            PhoneMemory single = Runs.phone(run, 40);
            int steps = once.pass(240);
            for (int i = 0; i < 240; i++) {
                steps -= single.pass(1);
            }
            Check.equal("steps of run " + run, 0, steps);
            Check.equal("minute of run " + run, once.size(3), single.size(3));
            for (int p = 0; p < 10; p++) {
                for (int what = 0; what < 4; what++) {
                    Check.equal("property " + what + " of " + p + " in run " + run, once.program(p, what), single.program(p, what));
                }
            }
        }
    }

    private static void passCountsSteps() {
        Check.sentence("Returns the number of trim steps that were done.");
        PhoneMemory x = Check.phone("phone 60;program a 10 5 0 10 50 1 9999;program b 20 5 0 20 50 2 9999;program c 18 2 1 99 50 1 9999;");
        for (int p = 0; p < 3; p++) {
            x.show(p);
        }
        x.setPolicy(1);
        Check.equal("full", 60, x.size(2));
        // b: cache 5; a: cache 5; then b is frozen and zipped (10), a is frozen and zipped (5), b is saved (2), a is saved (1),
        // b closed, a closed, the cache of c
        int[] steps = {1, 0, 0, 0, 0, 1, 0, 0, 0, 0, 2, 0, 0, 0, 0, 0, 0, 0, 0, 0, 2, 0, 0, 0, 0, 1, 0, 0, 0, 0, 0, 0, 0, 1};
        for (int i = 0; i < steps.length; i++) {
            Check.equal("minute " + (i + 1), steps[i], x.pass(1));
        }
        Check.equal("all of them", 8, steps(x));
        Check.equal("the rest", 3, x.pass(240));
        Check.equal("then pages are refused", true, x.account(9) > 0);
        Check.equal("limit is used", 60, x.size(2));
    }

    private static void touchRange() {
        Check.sentence("Throws `IllegalArgumentException` if number is out of range (checked first)");
        PhoneMemory x = roomy(1);
        for (int i = 0; i < 2; i++) {
            for (int number : FAR_OFF) {
                Check.noArgument("touch " + number, () -> x.touch(number));
            }
            Check.noArgument("touch 1000", () -> x.touch(1000));
            if (i == 0) {
                Check.sentence("Throws `IllegalStateException` if no program is shown");
                Check.noState("none is shown", () -> x.touch(0));
                Check.noState("none is shown, 999", () -> x.touch(999));
            }
            x.show(0);
        }
        Check.equal("0", 0, x.touch(0));
        Check.equal("999", 999, x.touch(999));
        x.close(0);
        Check.noState("it is closed", () -> x.touch(0));
    }

    private static void sendWhileShown() {
        Check.sentence("If it is shown, it takes it in at once;");
        PhoneMemory x = roomy(2);
        x.show(0);
        Check.equal("none waits", 0, x.send(0, 7));
        Check.equal("picture", 7, x.picture(0));
        x.show(1);
        for (int i = 1; i <= 5; i++) {
            x.send(0, i);
        }
        x.show(0);
        Check.equal("five wait, and none is lost", 5, x.send(0, 9));
        Check.equal("picture then", 31 * 7 + 9, x.picture(0));
        Check.equal("the first one", 1, x.notice(0, 0));
        Check.equal("the last one", 5, x.notice(0, 4));
    }

    private static void sendToAClosedOne() {
        Check.sentence("if it is closed, the notice is lost;");
        PhoneMemory x = roomy(2);
        Check.equal("closed", 0, x.send(0, 7));
        x.show(0);
        Check.equal("picture", 0, x.picture(0));
        Check.equal("none waits", -1, x.notice(0, 0));
        Check.noState("none to read", () -> x.read());
        x.close(0);
        Check.equal("closed again", 0, x.send(0, 7));
        Check.equal("picture of a closed one", 0, x.picture(0));
    }

    private static void sendASixthOne() {
        Check.sentence("otherwise the notice waits behind the others; if 5 wait already, the first one of them is lost.");
        PhoneMemory x = roomy(1);
        x.show(0);
        x.home();
        int sent = 0;
        for (int state = 2; state <= 5; state++) {
            for (int i = 0; i < 7; i++) {
                sent++;
                Check.equal("send " + sent, Math.min(5, sent), x.send(0, sent));
                int waiting = Math.min(5, sent);
                Check.equal("the first one behind " + sent, sent - waiting + 1, x.notice(0, 0));
                Check.equal("the last one behind " + sent, sent, x.notice(0, waiting - 1));
                Check.equal("no more behind " + sent, -1, x.notice(0, waiting));
            }
            if (state < 5) {
                x.trim(state == 2 ? 3 : state == 3 ? 2 : 4);
            }
        }
        Check.equal("saved", 5, x.program(0, 0));
        x.show(0);
        Check.equal("read", 24, x.read());
        x.home();
        Check.equal("one has place again", 5, x.send(0, 99));
        Check.equal("none is lost", 25, x.notice(0, 0));
    }

    private static void readNone() {
        Check.sentence("Throws `IllegalStateException` if no program is shown, or it has no notice that waits");
        PhoneMemory x = roomy(2);
        Check.noState("none was shown", () -> x.read());
        x.show(0);
        Check.noState("none waits", () -> x.read());
        x.home();
        x.send(0, 5);
        Check.noState("one waits, but none is shown", () -> x.read());
        x.show(1);
        Check.noState("one waits for another one", () -> x.read());
        x.show(0);
        Check.equal("now", 5, x.read());
        Check.noState("none waits any more", () -> x.read());
        Check.equal("the picture stays", 5, x.picture(0));
        x.undo();
        Check.equal("undone, it waits again", 5, x.read());
    }

    private static void pinKeepsTheState() {
        Check.sentence("Pins a program, or does not pin it any more. Its state stays.");
        PhoneMemory x = roomy(1);
        int[] kinds = {0, 0, 3, 2, 4, 5};
        for (int state = 0; state <= 5; state++) {
            if (state == 1) {
                x.show(0);
            } else if (state == 2) {
                x.home();
            } else if (state > 2) {
                x.trim(kinds[state - 1]);
            }
            Check.equal("before", false, x.pin(0, true));
            Check.equal("state " + state, state, x.program(0, 0));
            Check.equal("pinned", 1, x.program(0, 6));
            Check.equal("again", true, x.pin(0, true));
            Check.equal("not any more", true, x.pin(0, false));
            Check.equal("not pinned", 0, x.program(0, 6));
            Check.equal("not again", false, x.pin(0, false));
            Check.equal("state " + state + " still", state, x.program(0, 0));
        }
    }

    private static void trimRefused() {
        Check.sentence("Throws `IllegalStateException` if no program can have it, or all programs together would use more than limit then");
        PhoneMemory x = Check.phone("phone 50;program a 50 0 0 50 10 46 9999;program b 5 0 0 5 50 1 9999;");
        x.show(0);
        x.home();
        x.trim(3);
        x.trim(2);
        x.show(1);
        Check.equal("used", 10, x.size(2));
        Check.equal("would be used", 51, 10 - x.freed(4));
        Check.noState("one page too many", () -> x.trim(4));
        Check.equal("zipped as before", 4, x.program(0, 0));
        x.setLimit(51);
        Check.equal("just limit", 0, x.trim(4));
        Check.equal("saved", 5, x.program(0, 0));
        Check.equal("used then", 51, x.size(2));
        Check.noState("none is zipped", () -> x.trim(4));
        Check.noState("none has a cache", () -> x.trim(6));
    }

    private static void closePinned() {
        Check.sentence("Closes a program; also if it is pinned.");
        for (int state = 1; state <= 5; state++) {
            PhoneMemory x = roomy(1);
            x.show(0);
            int[] kinds = {3, 2, 4};
            for (int i = 0; i < state - 1; i++) {
                if (i == 0) {
                    x.home();
                } else {
                    x.trim(kinds[i - 1]);
                }
            }
            x.pin(0, true);
            Check.equal("state", state, x.program(0, 0));
            x.close(0);
            Check.equal("closed from " + state, 0, x.program(0, 0));
            Check.equal("none is shown from " + state, -1, x.size(4));
            Check.equal("shown last from " + state, 0, x.size(5));
            Check.equal("no entry from " + state, 1 + Math.max(0, state - 2), steps(x) + x.account(7));
        }
    }

    private static void closeClosed() {
        Check.sentence("Throws `IllegalStateException` if it is closed");
        PhoneMemory x = roomy(10);
        for (int p = 0; p < 10; p++) {
            int program = p;
            Check.noState("close " + p, () -> x.close(program));
        }
        x.show(9);
        x.close(9);
        Check.noState("closed again", () -> x.close(9));
        x.undo();
        Check.equal("undone", 25, x.close(9));
    }

    private static void closeReturns() {
        Check.sentence("Returns the number of pages less that all programs use then.");
        int[] less = {0, 25, 25, 25, 10, 4};
        for (int state = 1; state <= 5; state++) {
            PhoneMemory x = roomy(2);
            x.show(0);
            int[] kinds = {3, 2, 4};
            for (int i = 0; i < state - 1; i++) {
                if (i == 0) {
                    x.home();
                } else {
                    x.trim(kinds[i - 1]);
                }
            }
            Check.equal("used in state " + state, less[state], x.size(2));
            Check.equal("less from state " + state, less[state], x.close(0));
            Check.equal("used then", 0, x.size(2));
        }
    }

    private static void limitRange() {
        Check.sentence("`limit`: 50 to 2000");
        PhoneMemory x = roomy(1);
        for (int limit : FAR_OFF) {
            Check.noArgument("limit " + limit, () -> x.setLimit(limit));
        }
        for (int limit : new int[] {0, 1, 49, 2001, 2002}) {
            Check.noArgument("limit " + limit, () -> x.setLimit(limit));
        }
        Check.equal("as before", 2000, x.size(1));
        Check.equal("least", 0, x.setLimit(50));
        Check.equal("it is set", 50, x.size(1));
        Check.equal("greatest", 0, x.setLimit(2000));
        Check.equal("it is set, too", 2000, x.size(1));
        // 49 is out of range though it would be refused as well
        PhoneMemory y = Check.phone("phone 60;program a 60 0 0 60 50 1 9999;");
        y.show(0);
        Check.noArgument("checked first", () -> y.setLimit(49));
        Check.noState("refused", () -> y.setLimit(50));
    }

    private static void limitRefused() {
        Check.sentence("Sets limit; then memory is made.");
        PhoneMemory x = Check.phone("phone 200;program a 60 10 0 60 50 1 9999;program b 30 5 0 30 50 1 9999;");
        x.show(1);
        x.show(0);
        Check.equal("just what is used", 0, x.setLimit(105));
        Check.equal("one page less", 1, x.setLimit(104));
        Check.equal("the least that goes", 5, x.setLimit(60));
        Check.noState("one page less is refused", () -> x.setLimit(59));
        Check.equal("limit as before", 60, x.size(1));
        Check.equal("steps as before", 6, steps(x));
        Check.equal("more again", 0, x.setLimit(61));
        Check.equal("b stays closed", 0, x.program(1, 0));
    }

    private static void policyRange() {
        Check.sentence("Returns the previous policy.");
        PhoneMemory x = roomy(1);
        int previous = 0;
        for (int policy : new int[] {0, 1, 2, 2, 0, 2, 1, 0}) {
            Check.equal("policy before " + policy, previous, x.setPolicy(policy));
            Check.equal("policy", policy, x.size(6));
            previous = policy;
        }
        for (int policy : FAR_OFF) {
            Check.noArgument("policy " + policy, () -> x.setPolicy(policy));
        }
        Check.noArgument("policy 3", () -> x.setPolicy(3));
        Check.equal("policy stays", 0, x.size(6));
    }

    // ---- promises 35 to 37

    private static void undoNone() {
        Check.sentence("Returns the number of changes that can still be undone; NONE if there was none to undo.");
        PhoneMemory x = new PhoneMemory();
        Check.equal("a new object", -1, x.undo());
        Check.parse(x, TIGHT);
        Check.equal("behind parse", -1, x.undo());
        x.pass(1);
        x.pass(2);
        Check.equal("one is left", 1, x.undo());
        Check.equal("minute", 1, x.size(3));
        Check.equal("none is left", 0, x.undo());
        Check.equal("minute at first", 0, x.size(3));
        Check.equal("none to undo", -1, x.undo());
        Check.equal("still none", -1, x.undo());
        Check.equal("minute stays", 0, x.size(3));
        Check.noState("throws", () -> x.read());
        Check.equal("what throws is none", -1, x.undo());
    }

    private static void saveInPlace() {
        Check.sentence("Saves a snapshot in a slot, in place of an earlier one.");
        PhoneMemory x = roomy(1);
        for (int slot = 0; slot <= 1; slot++) {
            for (int i = 0; i < 3; i++) {
                x.pass(1);
                Check.equal("save " + i + " in " + slot, i > 0, x.saveSnapshot(slot));
            }
        }
        int changes = x.size(8);
        Check.equal("no changes", 6, changes);
        Check.equal("slot 0", 3, x.restoreSnapshot(0));
        Check.equal("slot 1", 6, x.restoreSnapshot(1));
        x.pass(1);
        x.undo();
        Check.equal("undo leaves the slots", true, x.saveSnapshot(0));
        Check.equal("slot 0 then", 6, x.restoreSnapshot(0));
    }

    private static void restoreEmpty() {
        Check.sentence("Throws `IllegalStateException` if the slot is empty");
        PhoneMemory x = new PhoneMemory();
        Check.noState("a new object, 0", () -> x.restoreSnapshot(0));
        Check.noState("a new object, 1", () -> x.restoreSnapshot(1));
        Check.equal("a snapshot of a phone without programs", false, x.saveSnapshot(1));
        Check.noState("0 is empty", () -> x.restoreSnapshot(0));
        Check.equal("1 is not", 0, x.restoreSnapshot(1));
        Check.parse(x, TIGHT);
        Check.noState("emptied by parse", () -> x.restoreSnapshot(1));
        x.pass(1);
        Check.noState("it is still empty", () -> x.restoreSnapshot(1));
        Check.equal("the change stays", 1, x.size(8));
    }

    private static void restoreClearsHistory() {
        Check.sentence("Restores the snapshot of a slot, which stays stored. The undo history is cleared.");
        PhoneMemory x = roomy(1);
        x.show(0);
        x.pass(3);
        x.saveSnapshot(0);
        Check.equal("saving keeps the history", 2, x.size(8));
        for (int i = 0; i < 12; i++) {
            x.touch(i);
        }
        Check.equal("history", 10, x.size(8));
        Check.equal("minute", 3, x.restoreSnapshot(0));
        Check.equal("cleared", 0, x.size(8));
        Check.equal("nothing to undo", -1, x.undo());
        Check.equal("picture", 0, x.picture(0));
        for (int i = 0; i < 3; i++) {
            x.touch(9);
            x.pass(5);
            Check.equal("it stays stored", 3, x.restoreSnapshot(0));
            Check.equal("and as it was", 0, x.picture(0));
        }
        x.touch(8);
        Check.equal("changes behind it are counted", 1, x.size(8));
        Check.equal("and undone", 0, x.undo());
        Check.equal("to the snapshot", 0, x.picture(0));
    }
}
