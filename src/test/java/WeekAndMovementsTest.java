/** Promises 1 to 7: a new object, week, settings, movements. */
public final class WeekAndMovementsTest {
    private static final int FAR = Integer.MAX_VALUE;
    private static final int FAR_BELOW = Integer.MIN_VALUE;

    public static void main(String[] args) {
        promise1();
        promise2();
        promise2Order();
        promise3();
        promise4();
        promise5();
        promise6();
        promise7();
        Checks.end();
    }

    private static void promise1() {
        VaultMovements x = new VaultMovements();
        int[] counts = {0, 0, 0, 0, 8, -1, 0, 0, 0, 0, 0, 0, 0, 0, 0};
        for (int i = 0; i < counts.length; i++) {
            Checks.due("1: count(" + i + ")", x.count(i), counts[i]);
        }
        int[] settings = {3, 2, 500};
        for (int i = 0; i < 3; i++) {
            Checks.due("1: setting(" + i + ")", x.setting(i), settings[i]);
            Checks.due("1: hours", x.movement(i, 0), 0);
            Checks.due("1: goes", x.movement(i, 1), 1);
            Checks.due("1: loss", x.movement(i, 2), 0);
            Checks.due("1: ran", x.movement(i, 3), 0);
        }
        for (int i = 0; i < 7; i++) {
            Checks.due("1: day(" + i + ")", x.day(i), i < 5 ? 8 : -1);
        }
        Checks.due("1: NONE", VaultMovements.NONE, -1);
        Checks.due("1: clearBuffer()", x.clearBuffer(), 0);
        Checks.due("1: firstError()", x.firstError(), 0);
        Checks.due("1: digest()", x.digest(), Checks.digestOf(x, ""));
        VaultMovements other = new VaultMovements();
        other.opening(0, 1);
        other.append('n');
        Checks.due("1: objects share nothing", x.day(0), 8);
        Checks.due("1: objects share no buffer", x.clearBuffer(), 0);
    }

    private static void promise2() {
        VaultMovements x = new VaultMovements();
        Checks.due("2: opening(6, 0)", x.opening(6, 0), -1);
        Checks.due("2: day(6)", x.day(6), 0);
        Checks.due("2: opening(0, 23)", x.opening(0, 23), 8);
        Checks.due("2: next opening", x.count(4), 23);
        Checks.due("2: opening(0, NONE)", x.opening(0, VaultMovements.NONE), 23);
        Checks.due("2: next opening on day 1", x.count(4), 32);
        Checks.due("2: saved", x.count(14), 3);
        Checks.due("2: opening(0, NONE) again", x.opening(0, -1), -1);
        Checks.due("2: saved though nothing changed", x.count(14), 4);
        x.undo();
        x.undo();
        Checks.due("2: undone", x.day(0), 23);

        VaultMovements locked = Checks.lockedWith(8, 0, 0);
        locked.opening(0, 20);
        Checks.due("2: a due opening stays", locked.count(5), 8);
        Checks.due("2: the next one changes", locked.count(4), 20);
    }

    private static void promise2Order() {
        VaultMovements x = new VaultMovements();
        for (int day : new int[] {-1, 7, FAR, FAR_BELOW}) {
            Checks.dueIndex("2: opening(" + day + ", 8)", x, () -> x.opening(day, 8));
            Checks.dueIndex("2: opening(" + day + ", 24)", x, () -> x.opening(day, 24));
        }
        for (int time : new int[] {-2, 24, FAR, FAR_BELOW}) {
            Checks.dueArgument("2: opening(0, " + time + ")", x, () -> x.opening(0, time));
        }
    }

    private static void promise3() {
        VaultMovements x = new VaultMovements();
        int[] first = {3, 2, 500};
        int[] least = {1, 1, 10};
        int[] most = {9, 24, 5000};
        for (int i = 0; i < 3; i++) {
            int setting = i;
            Checks.due("3: set least", x.set(i, least[i]), first[i]);
            Checks.due("3: is least", x.setting(i), least[i]);
            Checks.due("3: set most", x.set(i, most[i]), least[i]);
            Checks.due("3: is most", x.setting(i), most[i]);
            for (int value : new int[] {least[i] - 1, most[i] + 1, -1, FAR, FAR_BELOW}) {
                Checks.dueArgument("3: set(" + i + ", " + value + ")", x, () -> x.set(setting, value));
            }
        }
        Checks.due("3: saved", x.count(14), 6);
        x.undo();
        Checks.due("3: undone", x.setting(2), 10);
        for (int setting : new int[] {-1, 3, FAR, FAR_BELOW}) {
            Checks.dueIndex("3: set(" + setting + ", 5)", x, () -> x.set(setting, 5));
            Checks.dueIndex("3: set(" + setting + ", 0)", x, () -> x.set(setting, 0));
        }
    }

    private static void promise4() {
        VaultMovements x = new VaultMovements();
        Checks.due("4: wind(0, 1)", x.wind(0, 1), 0);
        Checks.due("4: wind(0, 200)", x.wind(0, 200), 1);
        Checks.due("4: hours are not added", x.movement(0, 0), 200);
        Checks.due("4: wind(2, 7)", x.wind(2, 7), 0);
        Checks.due("4: the others stay", x.movement(1, 0), 0);
        Checks.due("4: saved", x.count(14), 3);
        x.undo();
        Checks.due("4: undone", x.movement(2, 0), 0);
        x.fault(1, false);
        Checks.dueState("4: a stopped movement", x, () -> x.wind(1, 5));
        Checks.dueArgument("4: a stopped movement, 0 hours", x, () -> x.wind(1, 0));
        x.lock();
        Checks.dueState("4: locked", x, () -> x.wind(0, 5));
        for (int hours : new int[] {0, -1, 201, FAR, FAR_BELOW}) {
            Checks.dueArgument("4: wind(0, " + hours + ")", x, () -> x.wind(0, hours));
        }
        for (int movement : new int[] {-1, 3, FAR, FAR_BELOW}) {
            Checks.dueIndex("4: wind(" + movement + ", 5)", x, () -> x.wind(movement, 5));
            Checks.dueIndex("4: wind(" + movement + ", 0)", x, () -> x.wind(movement, 0));
        }
    }

    private static void promise5() {
        VaultMovements x = new VaultMovements();
        Checks.due("5: fault(1, false)", x.fault(1, false), 1);
        Checks.due("5: stopped", x.movement(1, 1), 0);
        Checks.due("5: fault(1, false) again", x.fault(1, false), 0);
        Checks.due("5: fault(1, true)", x.fault(1, true), 0);
        Checks.due("5: goes", x.movement(1, 1), 1);
        Checks.due("5: fault(1, true) again", x.fault(1, true), 1);
        Checks.due("5: saved", x.count(14), 4);
        x.undo();
        x.undo();
        Checks.due("5: undone", x.movement(1, 1), 0);
        VaultMovements locked = Checks.lockedWith(5, 9, 9);
        Checks.due("5: also while locked", locked.fault(0, false), 1);
        locked.pass(2);
        Checks.due("5: a stopped movement stands", locked.movement(0, 0), 5);
        Checks.due("5: and has not run", locked.movement(0, 3), 0);
        locked.fault(0, true);
        locked.pass(2);
        Checks.due("5: it goes again", locked.movement(0, 0), 3);
        for (int movement : new int[] {-1, 3, FAR, FAR_BELOW}) {
            Checks.dueIndex("5: fault(" + movement + ", true)", x, () -> x.fault(movement, true));
        }
    }

    private static void promise6() {
        VaultMovements x = new VaultMovements();
        Checks.due("6: loss(0, 20)", x.loss(0, 20), 0);
        Checks.due("6: loss(0, 0)", x.loss(0, 0), 20);
        Checks.due("6: loss(0, 4)", x.loss(0, 4), 0);
        Checks.due("6: saved", x.count(14), 3);
        x.wind(0, 9);
        x.wind(1, 9);
        x.wind(2, 9);
        x.lock();
        x.pass(3);
        Checks.due("6: three hours", x.movement(0, 0), 6);
        x.pass(1);
        Checks.due("6: the fourth is lost", x.movement(0, 0), 6);
        Checks.due("6: but it ran", x.movement(0, 3), 4);
        Checks.due("6: without loss", x.movement(1, 0), 5);
        Checks.due("6: also while locked", x.loss(1, 1), 0);
        x.pass(5);
        Checks.due("6: all are lost with 1", x.movement(1, 0), 5);
        Checks.due("6: ran", x.movement(1, 3), 9);
        Checks.due("6: the eighth is lost too", x.movement(0, 0), 2);
        x.undo();
        x.undo();
        Checks.due("6: undone", x.movement(1, 2), 0);
        for (int loss : new int[] {-1, 21, FAR, FAR_BELOW}) {
            Checks.dueArgument("6: loss(0, " + loss + ")", x, () -> x.loss(0, loss));
        }
        for (int movement : new int[] {-1, 3, FAR, FAR_BELOW}) {
            Checks.dueIndex("6: loss(" + movement + ", 0)", x, () -> x.loss(movement, 0));
            Checks.dueIndex("6: loss(" + movement + ", 21)", x, () -> x.loss(movement, 21));
        }
    }

    private static void promise7() {
        VaultMovements x = Checks.lockedWith(5, 9, 0);
        x.loss(1, 7);
        x.pass(6);
        Checks.dueState("7: locked", x, () -> x.service(1));
        Checks.dueIndex("7: locked, no such movement", x, () -> x.service(3));
        x.open();
        x.fault(1, false);
        Checks.due("7: service(0)", x.service(0), 5);
        Checks.due("7: service(1)", x.service(1), 6);
        Checks.due("7: goes", x.movement(1, 1), 1);
        Checks.due("7: no loss", x.movement(1, 2), 0);
        Checks.due("7: ran", x.movement(1, 3), 0);
        Checks.due("7: hours to run stay", x.movement(1, 0), 3);
        Checks.due("7: service(1) again", x.service(1), 0);
        x.undo();
        x.undo();
        Checks.due("7: ran, undone", x.movement(1, 3), 6);
        Checks.due("7: stopped, undone", x.movement(1, 1), 0);
        Checks.due("7: loss, undone", x.movement(1, 2), 7);
        for (int movement : new int[] {-1, 3, FAR, FAR_BELOW}) {
            Checks.dueIndex("7: service(" + movement + ")", x, () -> x.service(movement));
        }
    }
}
