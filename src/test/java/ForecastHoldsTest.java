/**
 * What would be, compared with what then is: for many small clocks the door is really tried in each hour, and undone.
 * A clock is made anew for each question, so that no one of them is asked too often.
 */
public final class ForecastHoldsTest {
    private static final int[] TO_RUN = {0, 1, 2, 4};
    private static final int[] LOSSES = {0, 1, 2, 3};
    private static final int[] WAITING = {0, 1, 3, 7};
    private static final int NEVER_AFTER = 20;
    private static final int DUE = 5;

    private final int toRun;
    private final int losses;
    private final int stopped;
    private final int waiting;

    /** Each argument but the last holds three numbers, one for each movement, 2 bits or 1 bit each. */
    private ForecastHoldsTest(int toRun, int losses, int stopped, int waiting) {
        this.toRun = toRun;
        this.losses = losses;
        this.stopped = stopped;
        this.waiting = waiting;
    }

    public static void main(String[] args) {
        for (int toRun = 0; toRun < 64; toRun++) {
            for (int losses = 0; losses < 64; losses++) {
                for (int stopped = 0; stopped < 8; stopped++) {
                    for (int waiting : WAITING) {
                        new ForecastHoldsTest(toRun, losses, stopped, waiting).holds();
                    }
                }
            }
        }
        Checks.end();
    }

    /** Locked, in the hour 1; the opening that is due is in the hour 5. */
    private VaultMovements clock() {
        VaultMovements x = new VaultMovements();
        x.opening(0, DUE);
        x.set(0, 1);
        for (int i = 0; i < 3; i++) {
            x.wind(i, TO_RUN[toRun >> 2 * i & 3] + 1);
        }
        x.lock();
        if (waiting > 0) {
            x.set(1, waiting + 1);
            x.open();
        }
        x.pass(1);
        for (int i = 0; i < 3; i++) {
            x.loss(i, LOSSES[losses >> 2 * i & 3]);
            x.fault(i, (stopped >> i & 1) == 0);
        }
        return x;
    }

    private void holds() {
        VaultMovements x = clock();
        String name = "toRun " + toRun + ", losses " + losses + ", stopped " + stopped + ", waiting " + waiting + ": ";
        Checks.due(name + "21: opensIn()", x.opensIn(), tried(clock(), 0));
        Checks.expect(name + "21: it waits", x.opensIn() == -1 || x.opensIn() >= waiting);
        Checks.due(name + "22: lateness()", x.lateness(), latenessOfTheFirstOpening());
        Checks.due(name + "23: keyMovement()", x.keyMovement(), firstThatMatters());
        for (int i = 0; i < 3; i++) {
            Checks.due(name + "17: movement(" + i + ", 5)", x.movement(i, 5), runDownIn(i));
        }
    }

    /** Lets hours go by until the door opens, and tells how many; an early try is undone. */
    private static int tried(VaultMovements x, int from) {
        if (from > 0) {
            x.pass(from);
        }
        for (int hours = from; hours <= NEVER_AFTER; hours++) {
            if (x.open() == 1) {
                return hours;
            }
            x.undo();
            x.pass(1);
        }
        return -1;
    }

    private int latenessOfTheFirstOpening() {
        VaultMovements x = clock();
        if (tried(x, 1) == -1) {
            return 1000;
        }
        int late = x.count(0) - DUE;
        Checks.due("opened on time", x.count(10), late == 0 ? 1 : 0);
        Checks.due("opened late", x.count(11), late > 0 ? 1 : 0);
        Checks.due("opened early", x.count(12), late < 0 ? 1 : 0);
        return late;
    }

    private int firstThatMatters() {
        VaultMovements x = clock();
        int opensIn = x.opensIn();
        for (int i = 0; i < 3; i++) {
            x.fault(i, false);
            if (x.opensIn() != opensIn) {
                return i;
            }
            x.undo();
        }
        return -1;
    }

    private int runDownIn(int movement) {
        VaultMovements x = clock();
        for (int hours = 0; hours <= NEVER_AFTER; hours++) {
            if (x.movement(movement, 0) == 0) {
                return hours;
            }
            x.pass(1);
        }
        return -1;
    }
}
