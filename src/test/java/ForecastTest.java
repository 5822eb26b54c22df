/** Promises 21 to 26: what would be. */
public final class ForecastTest {
    public static void main(String[] args) {
        promise21();
        promise22();
        promise23();
        promise24();
        promise24Lost();
        promise25();
        promise26();
        nothingIsChanged();
        Checks.end();
    }

    private static void promise21() {
        VaultMovements x = new VaultMovements();
        Checks.due("21: open", x.opensIn(), -1);
        x.wind(0, 9);
        x.wind(1, 7);
        x.wind(2, 8);
        x.lock();
        Checks.due("21: the least", x.opensIn(), 7);
        x.loss(1, 3);
        Checks.due("21: with loss the second", x.opensIn(), 8);
        x.fault(2, false);
        Checks.due("21: the third is stopped", x.opensIn(), 9);
        x.loss(0, 1);
        x.loss(1, 1);
        Checks.due("21: never", x.opensIn(), -1);
        VaultMovements now = Checks.lockedWith(0, 7, 7);
        Checks.due("21: now", now.opensIn(), 0);
        VaultMovements waits = Checks.lockedWith(1, 7, 7);
        waits.set(0, 1);
        waits.set(1, 5);
        waits.open();
        Checks.due("21: it waits longer than it runs", waits.opensIn(), 5);
        waits.pass(4);
        Checks.due("21: one hour more", waits.opensIn(), 1);
        VaultMovements runs = Checks.lockedWith(9, 9, 9);
        runs.set(0, 1);
        runs.open();
        Checks.due("21: it runs longer than it waits", runs.opensIn(), 9);
        runs.fault(0, false);
        runs.fault(1, false);
        runs.fault(2, false);
        Checks.due("21: never, though the waiting ends", runs.opensIn(), -1);
    }

    private static void promise22() {
        VaultMovements x = new VaultMovements();
        Checks.due("22: open", x.lateness(), 0);
        Checks.due("22: on time", Checks.lockedWith(8, 9, 9).lateness(), 0);
        Checks.due("22: early", Checks.lockedWith(7, 9, 9).lateness(), -1);
        Checks.due("22: late", Checks.lockedWith(12, 19, 19).lateness(), 4);
        Checks.due("22: tried from the next hour on", Checks.lockedWith(0, 9, 9).lateness(), -7);
        VaultMovements down = Checks.lockedWith(8, 9, 9);
        down.pass(8);
        Checks.due("22: could be opened now", down.lateness(), 1);
        VaultMovements never = Checks.lockedWith(8, 9, 9);
        for (int i = 0; i < 3; i++) {
            never.loss(i, 1);
        }
        Checks.due("22: never", never.lateness(), 1000);
        VaultMovements none = new VaultMovements();
        for (int day = 0; day < 7; day++) {
            none.opening(day, -1);
        }
        none.wind(0, 5);
        none.wind(1, 5);
        none.wind(2, 5);
        none.lock();
        Checks.due("22: nothing is due", none.lateness(), 0);
        none.fault(0, false);
        none.fault(1, false);
        none.fault(2, false);
        Checks.due("22: nothing is due, and never", none.lateness(), 1000);
        VaultMovements far = Checks.lockedWith(1, 9, 9);
        for (int i = 0; i < 6; i++) {
            far.pass(200);
        }
        Checks.due("22: very late", far.lateness(), 1193);
        VaultMovements waits = Checks.lockedWith(1, 9, 9);
        waits.set(0, 1);
        waits.set(1, 12);
        waits.open();
        Checks.due("22: it waits", waits.lateness(), 4);
    }

    private static void promise23() {
        VaultMovements x = new VaultMovements();
        Checks.due("23: open", x.keyMovement(), -1);
        Checks.due("23: the least", Checks.lockedWith(9, 7, 8).keyMovement(), 1);
        Checks.due("23: two of them", Checks.lockedWith(7, 7, 8).keyMovement(), -1);
        Checks.due("23: has run down", Checks.lockedWith(9, 0, 8).keyMovement(), -1);
        VaultMovements one = Checks.lockedWith(9, 9, 7);
        one.fault(0, false);
        one.loss(1, 1);
        Checks.due("23: never without it", one.keyMovement(), 2);
        one.fault(2, false);
        Checks.due("23: never anyhow", one.keyMovement(), -1);
        VaultMovements waits = Checks.lockedWith(3, 5, 9);
        waits.set(0, 1);
        waits.set(1, 6);
        waits.open();
        Checks.due("23: the waiting hides it", waits.keyMovement(), -1);
        waits.set(1, 4);
        waits.open();
        Checks.due("23: it waits, but not so long", waits.keyMovement(), 0);
    }

    private static void promise24() {
        VaultMovements x = new VaultMovements();
        for (int i = 0; i < 3; i++) {
            Checks.due("24: without loss", x.rightWinding(i), 8);
        }
        x.fault(1, false);
        Checks.due("24: stopped", x.rightWinding(1), -1);
        x.loss(0, 3);
        Checks.due("24: with loss 3", x.rightWinding(0), 6);
        x.loss(0, 2);
        Checks.due("24: the last would be lost", x.rightWinding(0), -1);
        x.loss(0, 1);
        Checks.due("24: all are lost", x.rightWinding(0), -1);
        for (int day = 0; day < 7; day++) {
            x.opening(day, day == 0 ? 0 : -1);
        }
        Checks.due("24: a week", x.rightWinding(2), 168);
        x.loss(2, 5);
        Checks.due("24: a week with loss 5", x.rightWinding(2), 135);
        x.loss(2, 0);
        x.opening(0, -1);
        Checks.due("24: no opening", x.rightWinding(2), -1);
        for (int movement : new int[] {-1, 3, Integer.MAX_VALUE, Integer.MIN_VALUE}) {
            Checks.dueIndex("24: rightWinding(" + movement + ")", x, () -> x.rightWinding(movement));
        }
        VaultMovements locked = Checks.lockedWith(3, 9, 9);
        locked.pass(5);
        Checks.due("24: also while locked", locked.rightWinding(0), 3);
    }

    private static void promise24Lost() {
        for (int loss = 2; loss <= 20; loss++) {
            for (int passed = 1; passed <= 30; passed++) {
                VaultMovements x = Checks.lockedWith(200, 0, 0);
                x.loss(0, loss);
                x.pass(passed);
                x.open();
                int hours = x.rightWinding(0);
                if (hours == -1) {
                    Checks.due("24: the last is lost", (x.movement(0, 3) + x.count(4)) % loss, 0);
                } else {
                    x.wind(0, hours);
                    x.wind(1, 200);
                    x.wind(2, 200);
                    Checks.due("24: property 5", x.movement(0, 5), x.count(4));
                    x.lock();
                    Checks.due("24: lateness()", x.lateness(), 0);
                    Checks.due("24: keyMovement()", x.keyMovement(), 0);
                }
            }
        }
    }

    private static void promise25() {
        VaultMovements x = new VaultMovements();
        Checks.due("25: no door yet", x.punctuality(), 1.0);
        x.wind(0, 8);
        x.wind(1, 9);
        x.wind(2, 9);
        x.lock();
        Checks.due("25: locked", x.punctuality(), 1.0);
        x.pass(8);
        x.open();
        Checks.due("25: on time", x.punctuality(), 1.0);
        x.wind(0, 3);
        x.lock();
        x.pass(3);
        x.open();
        Checks.due("25: one of two", x.punctuality(), 0.5);
        x.wind(0, 3);
        x.lock();
        x.drill();
        Checks.due("25: one of three, with the drilled one", x.punctuality(), 1.0 / 3.0);
        VaultMovements late = Checks.lockedWith(0, 0, 9);
        late.open();
        Checks.due("25: none of one", late.punctuality(), 0.0);
    }

    /** Shares of 100 doors, so that the bits of each are compared. */
    private static void promise26() {
        for (int onTime = 0; onTime <= 100; onTime += 5) {
            VaultMovements x = new VaultMovements();
            for (int day = 0; day < 7; day++) {
                x.opening(day, -1);
            }
            x.wind(0, 5);
            for (int i = 0; i < onTime; i++) {
                Clocks.openOnce(x);
            }
            Checks.due("26: digest()", x.digest(), Checks.digestOf(x, ""));
            x.opening(0, 5);
            for (int i = onTime; i < 100; i++) {
                Clocks.openOnce(x);
            }
            Checks.due("26: digest(), early", x.digest(), Checks.digestOf(x, ""));
            Checks.due("26: on time", x.count(10), onTime);
            Checks.due("26: early", x.count(12), 100 - onTime);
        }
        VaultMovements first = new VaultMovements();
        Checks.type(first, "n+2");
        Checks.due("26: with a buffer", first.digest(), Checks.digestOf(first, "n+2"));
        VaultMovements late = Checks.lockedWith(12, 19, 20);
        Checks.due("26: locked, late by 4", late.digest(), Checks.digestOf(late, ""));
        late.open();
        late.open();
        late.open();
        Checks.due("26: waiting", late.digest(), Checks.digestOf(late, ""));
    }

    private static void nothingIsChanged() {
        VaultMovements x = Checks.lockedWith(9, 12, 0);
        x.loss(0, 4);
        long before = x.digest();
        x.opensIn();
        x.lateness();
        x.keyMovement();
        x.rightWinding(1);
        x.punctuality();
        x.movement(0, 5);
        x.count(4);
        x.digest();
        Checks.due("21 to 26: nothing is changed", x.digest(), before);
        Checks.due("21 to 26: nothing is saved", x.count(14), 4);
    }
}
