/** Clocks in the states that cases begin with. */
final class Clocks {
    static final int NONE = VaultMovements.NONE;
    static final int FAR = Integer.MAX_VALUE;
    static final int FAR_BELOW = Integer.MIN_VALUE;
    static final int LAST_HOUR = 99999;

    private Clocks() {
    }

    /** Lets more hours go by than one call can. */
    static void pass(VaultMovements x, int hours) {
        for (int left = hours; left > 0; left -= 200) {
            x.pass(Math.min(left, 200));
        }
    }

    /** A new clock, its door open, in this hour: 500 calls for the last one. */
    static VaultMovements at(int hour) {
        VaultMovements x = new VaultMovements();
        pass(x, hour);
        return x;
    }

    static void setOpenings(VaultMovements x, int... times) {
        for (int day = 0; day < 7; day++) {
            x.opening(day, times[day]);
        }
    }

    /** One day has an opening, the others have none. */
    static void setOnlyOpening(VaultMovements x, int day, int time) {
        int[] times = {NONE, NONE, NONE, NONE, NONE, NONE, NONE};
        times[day] = time;
        setOpenings(x, times);
    }

    static void shutAlways(VaultMovements x) {
        setOnlyOpening(x, 0, NONE);
    }

    /** Winds the movements; 0 leaves one as it is. */
    static void wind(VaultMovements x, int... hours) {
        for (int i = 0; i < 3; i++) {
            if (hours[i] > 0) {
                x.wind(i, hours[i]);
            }
        }
    }

    /** In the hour 0, when the opening that is due is in the hour 8. */
    static VaultMovements lockedWith(int... hours) {
        VaultMovements x = new VaultMovements();
        wind(x, hours);
        x.lock();
        return x;
    }

    /** All but one movement have plenty to run. */
    static VaultMovements lockedWithOne(int movement, int hours) {
        int[] all = {150, 150, 150};
        all[movement] = hours;
        return lockedWith(all);
    }

    /** A locked door that cannot be opened, with this setting 0 and setting 1. */
    static VaultMovements lockedWithTries(int tries, int waiting) {
        VaultMovements x = lockedWith(100, 100, 100);
        x.set(0, tries);
        x.set(1, waiting);
        return x;
    }

    static void tryTimes(VaultMovements x, int times) {
        for (int i = 0; i < times; i++) {
            x.open();
        }
    }

    /** Locks and opens the door at once; a movement has to be wound, and another one not. */
    static void openOnce(VaultMovements x) {
        x.lock();
        x.open();
    }

    static VaultMovements typed(String text) {
        VaultMovements x = new VaultMovements();
        Checks.type(x, text);
        return x;
    }

    /** Open, with six saved states, a past, and a text; the movement 2 is stopped. */
    static VaultMovements busyOpen() {
        VaultMovements x = lockedWith(8, 20, 20);
        x.pass(8);
        x.open();
        x.wind(0, 5);
        x.lock();
        x.open();
        x.drill();
        x.service(0);
        x.service(1);
        x.opening(5, 9);
        x.set(2, 77);
        x.loss(1, 4);
        x.wind(1, 30);
        x.pass(3);
        Checks.type(x, "n,n+2");
        return x;
    }

    /** Locked, with six saved states, a text, and some hours to wait; the movement 1 is stopped. */
    static VaultMovements busyLocked() {
        VaultMovements x = new VaultMovements();
        x.set(0, 2);
        x.set(1, 9);
        wind(x, 60, 50, 40);
        x.loss(2, 3);
        x.lock();
        x.pass(5);
        x.fault(1, false);
        x.open();
        x.open();
        x.pass(1);
        x.open();
        Checks.type(x, "5,-,n");
        return x;
    }

    /** A clock whose buffer is full of "n". */
    static VaultMovements fullBuffer() {
        return typed("n".repeat(60));
    }
}
