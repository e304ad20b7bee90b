/** Promises 35 to 37: undo and snapshots. */
public final class UndoTest {
    private static final String TEXT = "phone 100;program mail 40 10 2 60 50 5 1000;program maps 50 20 5 80 40 8 100;"
            + "program song 30 0 0 30 50 3 50;work mail 2;";

    public static void main(String[] args) {
        promise35Undo();
        promise35EachChange();
        promise35WhatIsNoChange();
        promise35TenChanges();
        promise36SaveSnapshot();
        promise37RestoreSnapshot();
        promise37HoldsAll();
        Check.end("UndoTest");
    }

    private static void promise35Undo() {
        PhoneMemory x = Check.phone(TEXT);
        Check.equal("35 none", -1, x.undo());
        x.show(0);
        x.touch(4);
        x.touch(5);
        Check.equal("35 the latest first", 2, x.undo());
        Check.equal("35 picture", 4, x.picture(0));
        Check.equal("35 the next one", 1, x.undo());
        Check.equal("35 picture before", 0, x.picture(0));
        Check.equal("35 another change", 7, x.touch(7));
        Check.equal("35 two then", 2, x.size(8));
        Check.equal("35 undone", 1, x.undo());
        Check.equal("35 the first one", 0, x.undo());
        Check.equal("35 closed", 0, x.program(0, 0));
        Check.equal("35 log", -1, x.log(0, 0));
        Check.equal("35 account", 0, x.account(7));
        Check.equal("35 none any more", -1, x.undo());
        Check.equal("35 still none", 0, x.size(8));
    }

    private static PhoneMemory busy() {
        PhoneMemory x = Check.phone(TEXT);
        x.show(0);
        x.touch(3);
        x.pass(7);
        x.show(1);
        x.send(0, 11);
        x.pass(5);
        x.show(0);
        x.pass(61);
        x.show(1);
        x.pass(2);
        x.pin(2, true);
        return x;
    }

    private interface Change {
        long on(PhoneMemory x);
    }

    private static void undoes(int step, Change change, PhoneMemory x) {
        String before = Check.all(x);
        int changes = x.size(8);
        change.on(x);
        Check.equal("35 step " + step + " is a change", Math.min(10, changes + 1), x.size(8));
        Check.equal("35 undo of step " + step, Math.min(10, changes + 1) - 1, x.undo());
        Check.equal("35 all is as before step " + step, true, Check.all(x).equals(before));
    }

    /** Each change is undone on a phone of its own, on which the changes before it have been made. */
    private static void promise35EachChange() {
        Change[] changes = {x -> x.send(0, 5), x -> x.send(1, 5), x -> x.send(2, 5), x -> x.show(0), x -> x.show(0), x -> x.touch(6),
            x -> x.read(), x -> x.pass(100), x -> x.show(1), x -> x.home(), x -> x.home(), x -> x.pass(9), x -> x.setLimit(200),
            x -> x.setLimit(50), x -> x.setPolicy(2), x -> x.setPolicy(2), x -> x.pin(0, true) ? 1 : 0, x -> x.pin(0, true) ? 1 : 0,
            x -> x.setLimit(2000), x -> x.pin(0, false) ? 1 : 0, x -> x.close(1), x -> x.show(1), x -> x.trim(6), x -> x.close(1)};
        for (int step = 0; step < changes.length; step++) {
            PhoneMemory x = busy();
            for (int before = 0; before < step; before++) {
                changes[before].on(x);
            }
            undoes(step, changes[step], x);
        }
    }

    private static void promise35WhatIsNoChange() {
        PhoneMemory x = busy();
        x.undo();
        int changes = x.size(8);
        String before = Check.all(x);
        Check.noIndex("35 show", () -> x.show(3));
        Check.noArgument("35 pass", () -> x.pass(0));
        Check.noArgument("35 setLimit", () -> x.setLimit(49));
        Check.noState("35 setLimit refused", () -> x.setLimit(50));
        Check.noState("35 trim refused", () -> x.trim(2));
        Check.noState("35 read refused", () -> x.read());
        x.append(1, 2, 3, 4, 5);
        x.find();
        x.saveSnapshot(0);
        x.append(1, 2, 3, 4, 5);
        Check.equal("35 parse with an error", 1, x.parse(20));
        Check.equal("35 none is a change", changes, x.size(8));
        Check.equal("35 nothing has altered", true, Check.all(x).equals(before));
    }

    private static void promise35TenChanges() {
        PhoneMemory x = Check.phone(TEXT);
        x.show(0);
        for (int i = 1; i <= 25; i++) {
            x.setLimit(100 + i);
        }
        Check.equal("35 at most ten", 10, x.size(8));
        for (int i = 9; i >= 0; i--) {
            Check.equal("35 undone, left " + i, i, x.undo());
            Check.equal("35 limit with " + i + " left", 115 + i, x.size(1));
        }
        Check.equal("35 no eleventh", -1, x.undo());
        Check.equal("35 limit stays", 115, x.size(1));
        for (int i = 1; i <= 4; i++) {
            x.setLimit(300 + i);
        }
        x.undo();
        x.undo();
        x.setLimit(400);
        Check.equal("35 three then", 3, x.size(8));
        x.undo();
        Check.equal("35 to the second one", 302, x.size(1));
        x.undo();
        Check.equal("35 to the first one", 301, x.size(1));
        Check.equal("35 to none", 0, x.undo());
        Check.equal("35 to what was before", 115, x.size(1));
    }

    private static void promise36SaveSnapshot() {
        PhoneMemory x = busy();
        for (int slot : new int[] {-1, 2, Integer.MIN_VALUE, Integer.MAX_VALUE}) {
            Check.noIndex("36 slot " + slot, () -> x.saveSnapshot(slot) ? 1 : 0);
            Check.noIndex("37 slot " + slot, () -> x.restoreSnapshot(slot));
        }
        int changes = x.size(8);
        Check.equal("36 first", false, x.saveSnapshot(1));
        Check.equal("36 again", true, x.saveSnapshot(1));
        Check.equal("36 the other slot", false, x.saveSnapshot(0));
        Check.equal("36 no change", changes, x.size(8));
        x.pass(10);
        Check.equal("36 in its place", true, x.saveSnapshot(0));
        x.pass(10);
        Check.equal("37 the later one", 85, x.restoreSnapshot(0));
        Check.equal("37 the earlier one", 75, x.restoreSnapshot(1));
    }

    private static void promise37RestoreSnapshot() {
        PhoneMemory x = busy();
        Check.noState("37 empty 0", () -> x.restoreSnapshot(0));
        Check.noState("37 empty 1", () -> x.restoreSnapshot(1));
        Check.equal("37 history stays", 10, x.size(8));
        x.saveSnapshot(0);
        Check.noState("37 1 is still empty", () -> x.restoreSnapshot(1));
        x.pass(3);
        x.undo();
        x.pass(4);
        Check.equal("37 minute", 75, x.restoreSnapshot(0));
        Check.equal("37 history is cleared", 0, x.size(8));
        Check.equal("37 nothing to undo", -1, x.undo());
        x.pass(30);
        Check.equal("37 it stays stored", 75, x.restoreSnapshot(0));
        x.close(1);
        Check.equal("35 undo behind it", 0, x.undo());
        Check.equal("37 its own phone", 1, x.program(1, 0));
    }

    private static PhoneMemory busyWithLimit() {
        PhoneMemory x = busy();
        x.setPolicy(2);
        x.setLimit(150);
        return x;
    }

    private static PhoneMemory alteredBehindSnapshot() {
        PhoneMemory x = busyWithLimit();
        x.saveSnapshot(1);
        for (int i = 0; i < 30; i++) {
            x.send(0, i);
            x.show(i % 2);
            x.touch(i);
            x.pass(i + 1);
            x.pin(i % 3, i % 2 == 0);
            if (i % 5 == 4) {
                x.close(i % 2);
            }
        }
        x.setPolicy(0);
        x.setLimit(99);
        return x;
    }

    private static void promise37HoldsAll() {
        String saved = Check.all(busyWithLimit());
        Check.equal("37 much has altered", false, saved.equals(Check.all(alteredBehindSnapshot())));
        PhoneMemory x = alteredBehindSnapshot();
        x.restoreSnapshot(1);
        Check.equal("37 all is as it was", true, saved.equals(Check.all(x)));
        PhoneMemory y = alteredBehindSnapshot();
        y.restoreSnapshot(1);
        y.show(0);
        y.pass(9);
        y.restoreSnapshot(1);
        Check.equal("37 once more", true, saved.equals(Check.all(y)));
    }
}
