/** Promises 8 to 11: door, time. */
public final class DoorTest {
    public static void main(String[] args) {
        promise8();
        promise9();
        promise9Waiting();
        promise9Settings();
        promise9Late();
        promise10();
        promise11();
        promise11Limit();
        Checks.end();
    }

    private static void promise8() {
        VaultMovements x = new VaultMovements();
        Checks.dueState("8: nothing to run", x, () -> x.lock());
        x.wind(1, 30);
        x.fault(1, false);
        Checks.dueState("8: the only one is stopped", x, () -> x.lock());
        x.fault(1, true);
        x.loss(1, 1);
        x.pass(8);
        long saved = x.count(14);
        Checks.due("8: lock()", x.lock(), 24);
        Checks.due("8: saved", x.count(14), Math.min(saved + 1, 6));
        Checks.due("8: locked", x.count(3), 1);
        Checks.due("8: due", x.count(5), 32);
        Checks.due("8: movements are as they were", x.movement(1, 0), 30);
        Checks.dueState("8: locked already", x, () -> x.lock());
        x.undo();
        Checks.due("8: undone", x.count(3), 0);
        Checks.due("8: undone, nothing is due", x.count(5), -1);
        for (int day = 0; day < 7; day++) {
            x.opening(day, -1);
        }
        Checks.due("8: without an opening", x.lock(), -1);
        Checks.due("8: nothing is due", x.count(5), -1);
        VaultMovements weekend = new VaultMovements();
        weekend.wind(0, 200);
        weekend.pass(104);
        Checks.due("8: over the weekend", weekend.lock(), 72);
        Checks.due("8: due after the weekend", weekend.count(5), 176);
    }

    private static void promise9() {
        VaultMovements x = new VaultMovements();
        Checks.dueState("9: the door is open", x, () -> x.open());
        x.wind(0, 8);
        x.wind(1, 9);
        x.wind(2, 9);
        x.lock();
        Checks.due("9: early try", x.open(), 0);
        Checks.due("9: counted", x.count(8), 1);
        Checks.due("9: counted since the lock", x.count(6), 1);
        Checks.due("9: still locked", x.count(3), 1);
        Checks.due("9: saved", x.count(14), 5);
        x.undo();
        Checks.due("9: undone", x.count(8), 0);
        x.pass(8);
        Checks.due("9: open()", x.open(), 1);
        Checks.due("9: is open", x.count(3), 0);
        Checks.due("9: opened", x.count(9), 1);
        Checks.due("9: on time", x.count(10), 1);
        Checks.due("9: nothing is due", x.count(5), -1);
        VaultMovements unwound = Checks.lockedWith(0, 5, 5);
        Checks.due("9: an unwound movement opens", unwound.open(), 1);
        Checks.due("9: early", unwound.count(12), 1);
        VaultMovements stopped = Checks.lockedWith(5, 6, 7);
        stopped.pass(5);
        stopped.fault(0, false);
        Checks.due("9: a stopped movement that ran down opens", stopped.open(), 1);
    }

    private static void promise9Waiting() {
        VaultMovements x = Checks.lockedWith(2, 90, 90);
        x.open();
        x.open();
        Checks.due("9: two tries, no waiting", x.count(7), 0);
        Checks.due("9: two tries", x.count(6), 2);
        x.open();
        Checks.due("9: the third makes it wait", x.count(7), 2);
        Checks.due("9: counted anew", x.count(6), 0);
        Checks.due("9: three in all", x.count(8), 3);
        x.pass(1);
        Checks.due("9: one hour more", x.count(7), 1);
        x.pass(1);
        Checks.due("9: waited", x.count(7), 0);
        x.undo();
        x.open();
        x.open();
        Checks.due("9: tries while it waits count", x.count(6), 2);
        Checks.due("9: but it waits as before", x.count(7), 1);
        x.pass(1);
        x.undo();
        x.open();
        Checks.due("9: the third begins anew", x.count(7), 2);
        x.pass(1);
        Checks.due("9: run down, but it waits", x.movement(0, 0), 0);
        Checks.due("9: an early try", x.open(), 0);
        Checks.due("9: since it began to wait", x.count(6), 1);
        Checks.due("9: opensIn()", x.opensIn(), 1);
        x.pass(1);
        Checks.due("9: opens after so many hours", x.open(), 1);
        Checks.due("9: tries while it is open", x.count(6), 0);
        Checks.due("9: waiting while it is open", x.count(7), 0);
        Checks.due("9: early tries so far", x.count(8), 7);
        x.wind(0, 9);
        x.wind(1, 9);
        x.wind(2, 9);
        x.lock();
        x.open();
        Checks.due("9: counted since the door was locked", x.count(6), 1);
        x.open();
        x.open();
        x.drill();
        Checks.due("9: drilling ends the waiting", x.count(7), 0);
    }

    private static void promise9Settings() {
        VaultMovements x = Checks.lockedWith(50, 50, 50);
        x.set(0, 9);
        for (int i = 0; i < 5; i++) {
            x.open();
        }
        x.set(0, 2);
        Checks.due("9: a lower setting does nothing by itself", x.count(7), 0);
        x.set(1, 24);
        x.open();
        Checks.due("9: but at the next try", x.count(7), 24);
        x.set(1, 1);
        Checks.due("9: it waits as was set at the try", x.count(7), 24);
        x.open();
        x.open();
        Checks.due("9: a later try begins anew, also with fewer hours", x.count(7), 1);
        x.set(0, 1);
        x.open();
        Checks.due("9: each try with setting 1", x.count(6), 0);
        Checks.due("9: waits", x.count(7), 1);
    }

    private static void promise9Late() {
        VaultMovements late = Checks.lockedWith(8, 20, 20);
        late.pass(9);
        late.open();
        Checks.due("9: late", late.count(11), 1);
        Checks.due("9: late, not on time", late.count(10), 0);
        Checks.due("9: late, not early", late.count(12), 0);
        VaultMovements early = Checks.lockedWith(7, 20, 20);
        early.pass(7);
        early.open();
        Checks.due("9: early", early.count(12), 1);
        Checks.due("9: early, not late", early.count(11), 0);
        VaultMovements never = new VaultMovements();
        for (int day = 0; day < 7; day++) {
            never.opening(day, -1);
        }
        never.wind(0, 3);
        never.lock();
        never.opening(0, 1);
        never.pass(3);
        never.open();
        Checks.due("9: on time without a due opening", never.count(10), 1);
    }

    private static void promise10() {
        VaultMovements x = new VaultMovements();
        Checks.dueState("10: the door is open", x, () -> x.drill());
        x.loss(1, 3);
        x.wind(1, 50);
        x.wind(2, 50);
        x.lock();
        x.pass(4);
        Checks.due("10: drill()", x.drill(), 1);
        Checks.due("10: open", x.count(3), 0);
        Checks.due("10: drilled", x.count(13), 1);
        Checks.due("10: not opened", x.count(9), 0);
        Checks.due("10: nothing is due", x.count(5), -1);
        for (int i = 0; i < 3; i++) {
            Checks.due("10: no hours", x.movement(i, 0), 0);
            Checks.due("10: stopped", x.movement(i, 1), 0);
        }
        Checks.due("10: loss stays", x.movement(1, 2), 3);
        Checks.due("10: ran stays", x.movement(1, 3), 4);
        Checks.dueState("10: open now", x, () -> x.drill());
        x.undo();
        Checks.due("10: undone", x.count(13), 0);
        Checks.due("10: hours, undone", x.movement(2, 0), 46);
        x.drill();
        x.service(0);
        x.wind(0, 1);
        x.lock();
        Checks.due("10: the second", x.drill(), 2);
    }

    private static void promise11() {
        VaultMovements x = new VaultMovements();
        x.wind(0, 3);
        Checks.due("11: pass while open", x.pass(200), 2);
        Checks.due("11: movements stand still", x.movement(0, 0), 3);
        Checks.due("11: none has run", x.movement(0, 3), 0);
        Checks.due("11: the hour", x.count(0), 200);
        Checks.due("11: the day", x.count(1), 1);
        Checks.due("11: the time", x.count(2), 8);
        x.wind(1, 5);
        x.wind(2, 4);
        x.lock();
        Checks.due("11: pass(3)", x.pass(3), 1);
        Checks.due("11: pass(1)", x.pass(1), 2);
        Checks.due("11: pass(200)", x.pass(200), 3);
        Checks.due("11: runs no more than it has", x.movement(0, 3), 3);
        Checks.due("11: the last", x.movement(1, 3), 5);
        x.undo();
        Checks.due("11: undone as one call", x.count(0), 204);
        Checks.due("11: hours, undone", x.movement(1, 0), 1);
        for (int hours : new int[] {0, -1, 201, Integer.MAX_VALUE, Integer.MIN_VALUE}) {
            Checks.dueArgument("11: pass(" + hours + ")", x, () -> x.pass(hours));
        }
    }

    private static void promise11Limit() {
        VaultMovements x = Clocks.at(99800);
        Checks.dueState("11: one too many", x, () -> x.pass(200));
        x.pass(199);
        Checks.due("11: the last hour", x.count(0), 99999);
        Checks.dueState("11: none more", x, () -> x.pass(1));
        Checks.dueArgument("11: none more, out of range", x, () -> x.pass(201));
        VaultMovements y = Clocks.at(99999);
        Checks.due("11: the opening is beyond the limit", y.count(4), 17);
        Clocks.wind(y, 30, 30, 30);
        y.lock();
        Checks.due("11: opens beyond the limit", y.opensIn(), 30);
        Checks.due("11: lateness beyond the limit", y.lateness(), 13);
    }
}
