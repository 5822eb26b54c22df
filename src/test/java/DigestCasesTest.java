import java.util.ArrayList;
import java.util.List;

/** The boundaries of the promises 25 and 26: punctuality, digest. */
public final class DigestCasesTest {
    public static void main(String[] args) {
        Cases.runAll(DigestCasesTest.class);
    }

    // ---- promise 25

    /** Opens so many doors on time, then so many early, then drills so many; some 4 calls each. */
    private static VaultMovements doors(int onTime, int early, int drilled) {
        VaultMovements x = new VaultMovements();
        Clocks.shutAlways(x);
        x.wind(0, 5);
        for (int i = 0; i < onTime; i++) {
            Clocks.openOnce(x);
        }
        x.opening(0, 5);
        for (int i = 0; i < early; i++) {
            Clocks.openOnce(x);
        }
        for (int i = 0; i < drilled; i++) {
            x.lock();
            x.drill();
            x.service(0);
            x.wind(0, 5);
        }
        return x;
    }

    private static void punctuality(VaultMovements x, double due) {
        Cases.dueShare("punctuality()", x.punctuality(), due);
    }

    static void promise25_noDoorYet() {
        punctuality(new VaultMovements(), 1.0);
    }

    static void promise25_aLockedDoorIsNone() {
        VaultMovements x = Clocks.lockedWith(9, 9, 9);
        x.open();
        punctuality(x, 1.0);
    }

    static void promise25_oneDoorOnTime() {
        punctuality(doors(1, 0, 0), 1.0);
    }

    static void promise25_oneDoorEarly() {
        punctuality(doors(0, 1, 0), 0.0);
    }

    static void promise25_oneDoorLate() {
        VaultMovements x = Clocks.lockedWithOne(0, 1);
        x.pass(9);
        x.open();
        punctuality(x, 0.0);
    }

    static void promise25_oneDoorDrilled() {
        punctuality(doors(0, 0, 1), 0.0);
    }

    static void promise25_drilledDoorsAreDoorsToo() {
        punctuality(doors(1, 0, 1), 0.5);
        punctuality(doors(1, 1, 1), 1.0 / 3.0);
        punctuality(doors(2, 0, 1), 2.0 / 3.0);
    }

    static void promise25_onlyThoseOnTimeAreDivided() {
        punctuality(doors(3, 4, 0), 3.0 / 7.0);
        punctuality(doors(9, 1, 1), 9.0 / 11.0);
    }

    static void promise25_nothingIsChanged() {
        Cases.notUndoable("punctuality()", x -> (long) x.punctuality(), Clocks::busyLocked);
    }

    // ---- promise 26

    /** The hash of these values, in order. */
    private static long hashOf(List<Long> values) {
        long hash = 2699;
        for (long value : values) {
            hash = 31 * hash + value;
        }
        return hash;
    }

    private static void add(List<Long> values, long... more) {
        for (long value : more) {
            values.add(value);
        }
    }

    static void promise26_aNewClock() {
        List<Long> values = new ArrayList<>();
        add(values, 0, 0, 0, 0, 8, -1, 0, 0, 0, 0, 0, 0, 0, 0, 0);
        add(values, 3, 2, 500);
        add(values, 8, 8, 8, 8, 8, -1, -1);
        add(values, 0, 1, 0, 0, 0, 0, 8);
        add(values, 0, 1, 0, 0, 0, 0, 8);
        add(values, 0, 1, 0, 0, 0, 0, 8);
        add(values, -1, 0, -1);
        add(values, 0x3FF0000000000000L, 0);
        Cases.due("digest()", new VaultMovements().digest(), hashOf(values));
    }

    static void promise26_aClockWithAPast() {
        VaultMovements x = new VaultMovements();
        Clocks.wind(x, 3, 40, 200);
        x.opening(6, 23);
        x.loss(1, 20);
        x.lock();
        x.pass(3);
        x.open();
        x.wind(0, 30);
        x.set(0, 2);
        x.set(1, 24);
        x.set(2, 10);
        x.lock();
        x.pass(9);
        Clocks.tryTimes(x, 3);
        x.fault(2, false);
        Checks.type(x, "n+9");
        List<Long> values = new ArrayList<>();
        add(values, 12, 0, 12, 1, 20, 8, 1, 24, 3, 1, 0, 0, 1, 0, 6);
        add(values, 2, 24, 10);
        add(values, 8, 8, 8, 8, 8, -1, 23);
        add(values, 21, 1, 0, 12, 1, 21, 20);
        add(values, 28, 1, 20, 12, 1, 30, 19);
        add(values, 188, 0, 0, 12, 1, -1, -1);
        add(values, 24, 28, 0);
        add(values, 0, 3, 'n', '+', '9');
        Cases.due("digest()", x.digest(), hashOf(values));
    }

    private static void digest(VaultMovements x, String buffer) {
        Cases.due("digest()", x.digest(), Checks.digestOf(x, buffer));
    }

    static void promise26_theBufferOfOneCharacter() {
        digest(Clocks.typed("!"), "!");
    }

    static void promise26_theFullBuffer() {
        String text = "!~".repeat(30);
        digest(Clocks.typed(text), text);
    }

    static void promise26_theClearedBuffer() {
        VaultMovements x = Clocks.fullBuffer();
        x.clearBuffer();
        digest(x, "");
    }

    static void promise26_theBitsOfPunctuality0() {
        digest(doors(0, 1, 0), "");
    }

    static void promise26_theBitsOfPunctuality1() {
        digest(doors(100, 0, 0), "");
    }

    static void promise26_theBitsOfEachShareOfUpTo40Doors() {
        for (int doors = 1; doors <= 40; doors++) {
            for (int onTime = 0; onTime <= doors; onTime++) {
                digest(doors(onTime, doors - onTime, 0), "");
            }
        }
    }

    static void promise26_theBitsOfTheSmallestShares() {
        digest(doors(1, 190, 0), "");
        digest(doors(190, 1, 0), "");
    }

    static void promise26_aLockedDoorThatWaits() {
        digest(Clocks.busyLocked(), "5,-,n");
    }

    static void promise26_anOpenDoorWithAPast() {
        digest(Clocks.busyOpen(), "n,n+2");
    }

    static void promise26_noOpening() {
        VaultMovements x = new VaultMovements();
        Clocks.shutAlways(x);
        digest(x, "");
    }

    static void promise26_theSavedStatesCount() {
        VaultMovements x = new VaultMovements();
        x.wind(0, 1);
        VaultMovements y = new VaultMovements();
        y.wind(0, 2);
        y.wind(0, 1);
        Cases.due("digest() is the same", x.digest() == y.digest() ? 1 : 0, 0);
        digest(x, "");
        digest(y, "");
    }

    static void promise26_nothingIsChanged() {
        Cases.notUndoable("digest()", x -> x.digest(), Clocks::busyLocked);
        Cases.notUndoable("digest()", x -> x.digest(), Clocks::busyOpen);
    }
}
