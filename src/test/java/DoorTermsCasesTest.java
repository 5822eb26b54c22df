/** The boundaries that the document names in "Terms" for the door: tries, waiting, and what is late or early. */
public final class DoorTermsCasesTest {
    private static final int NONE = VaultMovements.NONE;

    public static void main(String[] args) {
        Cases.runAll(DoorTermsCasesTest.class);
    }

    // ---- which door opens

    private static void opensBehind(VaultMovements x, int hours, int opens) {
        if (hours > 0) {
            x.pass(hours);
        }
        Cases.due("open() in the hour " + x.count(0), x.open(), opens);
    }

    static void terms_movement0With1HourLeftKeepsItShut() {
        opensBehind(Clocks.lockedWithOne(0, 9), 8, 0);
    }

    static void terms_movement0With0HoursLeftOpensIt() {
        opensBehind(Clocks.lockedWithOne(0, 9), 9, 1);
    }

    static void terms_movement1With0HoursLeftOpensIt() {
        opensBehind(Clocks.lockedWithOne(1, 9), 9, 1);
    }

    static void terms_movement2With0HoursLeftOpensIt() {
        opensBehind(Clocks.lockedWithOne(2, 9), 9, 1);
    }

    static void terms_allWith1HourLeftKeepItShut() {
        opensBehind(Clocks.lockedWith(2, 2, 2), 1, 0);
    }

    static void terms_aMovementThatWasNotWoundOpensIt() {
        for (int i = 0; i < 3; i++) {
            opensBehind(Clocks.lockedWithOne(i, 0), 0, 1);
        }
    }

    static void terms_aStoppedMovementWith0HoursOpensIt() {
        VaultMovements x = Clocks.lockedWithOne(0, 0);
        x.fault(0, false);
        opensBehind(x, 0, 1);
    }

    static void terms_aStoppedMovementWithHoursKeepsItShut() {
        VaultMovements x = Clocks.lockedWithOne(0, 1);
        x.fault(0, false);
        opensBehind(x, 1, 0);
    }

    // ---- when a waiting begins

    private static void waits(VaultMovements x, int hours) {
        Cases.due("count(7)", x.count(7), hours);
    }

    static void terms_oneTryFewerThanSetting0() {
        VaultMovements x = Clocks.lockedWithTries(3, 2);
        Clocks.tryTimes(x, 2);
        waits(x, 0);
        Cases.due("count(6)", x.count(6), 2);
    }

    static void terms_asManyTriesAsSetting0() {
        VaultMovements x = Clocks.lockedWithTries(3, 2);
        Clocks.tryTimes(x, 3);
        waits(x, 2);
        Cases.due("count(6)", x.count(6), 0);
    }

    static void terms_setting0Of1WaitsAtTheFirstTry() {
        VaultMovements x = Clocks.lockedWithTries(1, 2);
        waits(x, 0);
        x.open();
        waits(x, 2);
    }

    static void terms_setting0Of9WaitsAtTheNinthTry() {
        VaultMovements x = Clocks.lockedWithTries(9, 2);
        Clocks.tryTimes(x, 8);
        waits(x, 0);
        x.open();
        waits(x, 2);
    }

    static void terms_moreTriesThanSetting0WaitAtTheNextTry() {
        VaultMovements x = Clocks.lockedWithTries(9, 2);
        Clocks.tryTimes(x, 5);
        x.set(0, 2);
        waits(x, 0);
        x.open();
        waits(x, 2);
    }

    static void terms_aSetting0OfTheTriesMadeDoesNotWaitYet() {
        VaultMovements x = Clocks.lockedWithTries(9, 2);
        Clocks.tryTimes(x, 2);
        x.set(0, 3);
        waits(x, 0);
        x.open();
        waits(x, 2);
    }

    static void terms_aHigherSetting0NeedsMoreTries() {
        VaultMovements x = Clocks.lockedWithTries(3, 2);
        Clocks.tryTimes(x, 2);
        x.set(0, 4);
        x.open();
        waits(x, 0);
        x.open();
        waits(x, 2);
    }

    static void terms_triesBeforeTheDoorWasLockedDoNotCount() {
        VaultMovements x = Clocks.lockedWith(1, 50, 50);
        Clocks.tryTimes(x, 2);
        x.pass(1);
        x.open();
        x.wind(0, 50);
        x.lock();
        Cases.due("count(6)", x.count(6), 0);
        Clocks.tryTimes(x, 2);
        waits(x, 0);
        x.open();
        waits(x, 2);
    }

    static void terms_triesBeforeTheDoorWasDrilledDoNotCount() {
        VaultMovements x = Clocks.lockedWith(50, 50, 50);
        Clocks.tryTimes(x, 2);
        x.drill();
        for (int i = 0; i < 3; i++) {
            x.service(i);
            x.wind(i, 50);
        }
        x.lock();
        Cases.due("count(6)", x.count(6), 0);
        Clocks.tryTimes(x, 2);
        waits(x, 0);
    }

    static void terms_hoursBetweenTheTriesDoNotMatter() {
        VaultMovements x = Clocks.lockedWithTries(3, 2);
        x.open();
        x.pass(30);
        x.open();
        x.pass(30);
        waits(x, 0);
        x.open();
        waits(x, 2);
    }

    static void terms_triesCountAnewSinceItBeganToWait() {
        VaultMovements x = Clocks.lockedWithTries(3, 5);
        Clocks.tryTimes(x, 3);
        x.pass(1);
        Clocks.tryTimes(x, 2);
        waits(x, 4);
        Cases.due("count(6)", x.count(6), 2);
    }

    static void terms_aLaterTryBeginsTheWaitingAnew() {
        VaultMovements x = Clocks.lockedWithTries(3, 5);
        Clocks.tryTimes(x, 3);
        x.pass(1);
        Clocks.tryTimes(x, 3);
        waits(x, 5);
        Cases.due("count(6)", x.count(6), 0);
    }

    static void terms_triesWhileItWaitsStillCountBehindTheWaiting() {
        VaultMovements x = Clocks.lockedWithTries(3, 5);
        Clocks.tryTimes(x, 3);
        x.pass(4);
        Clocks.tryTimes(x, 2);
        x.pass(1);
        waits(x, 0);
        Cases.due("count(6)", x.count(6), 2);
        x.open();
        waits(x, 5);
    }

    static void terms_aTryWhileItWaitsIsEarlyThoughAMovementRanDown() {
        VaultMovements x = Clocks.lockedWithOne(0, 1);
        x.set(0, 1);
        x.set(1, 2);
        x.open();
        x.pass(1);
        Cases.due("movement(0, 0)", x.movement(0, 0), 0);
        opensBehind(x, 0, 0);
        waits(x, 2);
        Cases.due("count(8)", x.count(8), 2);
    }

    // ---- how long it waits

    private static VaultMovements waitingWithOneRunDown(int waiting) {
        VaultMovements x = Clocks.lockedWithOne(0, 1);
        x.set(1, waiting);
        Clocks.tryTimes(x, 3);
        return x;
    }

    static void terms_waiting1HourOpensInTheNextHour() {
        VaultMovements x = waitingWithOneRunDown(1);
        waits(x, 1);
        opensBehind(x, 1, 1);
    }

    static void terms_waiting2HoursIsShutBehind1() {
        opensBehind(waitingWithOneRunDown(2), 1, 0);
    }

    static void terms_waiting2HoursOpensBehind2() {
        opensBehind(waitingWithOneRunDown(2), 2, 1);
    }

    static void terms_waiting24HoursIsShutBehind23() {
        VaultMovements x = waitingWithOneRunDown(24);
        waits(x, 24);
        opensBehind(x, 23, 0);
    }

    static void terms_waiting24HoursOpensBehind24() {
        opensBehind(waitingWithOneRunDown(24), 24, 1);
    }

    static void terms_waitingBegunInTheHour0IsAWaiting() {
        VaultMovements x = waitingWithOneRunDown(2);
        Cases.due("count(0)", x.count(0), 0);
        waits(x, 2);
    }

    static void terms_setting1ChangedLaterDoesNotMatter() {
        VaultMovements x = waitingWithOneRunDown(2);
        x.set(1, 24);
        waits(x, 2);
        x.set(1, 1);
        waits(x, 2);
        opensBehind(x, 1, 0);
        opensBehind(x, 1, 1);
    }

    static void terms_setting1IsTakenAtTheTryThatMakesItWait() {
        VaultMovements x = Clocks.lockedWithTries(3, 5);
        Clocks.tryTimes(x, 2);
        x.set(1, 7);
        x.open();
        waits(x, 7);
    }

    static void terms_aWaitingBegunAnewCanBeShorter() {
        VaultMovements x = Clocks.lockedWithTries(1, 24);
        x.open();
        x.set(1, 1);
        x.open();
        waits(x, 1);
    }

    static void terms_openingEndsTheWaiting() {
        VaultMovements x = waitingWithOneRunDown(2);
        x.pass(2);
        x.open();
        waits(x, 0);
        Cases.due("count(6)", x.count(6), 0);
        x.lock();
        waits(x, 0);
        opensBehind(x, 0, 1);
    }

    static void terms_drillingEndsTheWaiting() {
        VaultMovements x = waitingWithOneRunDown(24);
        x.drill();
        waits(x, 0);
        x.service(0);
        x.wind(0, 9);
        x.lock();
        waits(x, 0);
        opensBehind(x, 0, 1);
    }

    // ---- the opening that is due, late and early

    private static void opened(VaultMovements x, int onTime, int late, int early) {
        Cases.due("count(9)", x.count(9), 1);
        Cases.due("count(10)", x.count(10), onTime);
        Cases.due("count(11)", x.count(11), late);
        Cases.due("count(12)", x.count(12), early);
    }

    private static VaultMovements openedIn(int hour) {
        VaultMovements x = Clocks.lockedWithOne(0, 1);
        x.pass(hour);
        x.open();
        return x;
    }

    static void terms_openedAnHourBeforeItIsDueIsEarly() {
        opened(openedIn(7), 0, 0, 1);
    }

    static void terms_openedInTheHourThatIsDueIsOnTime() {
        opened(openedIn(8), 1, 0, 0);
    }

    static void terms_openedAnHourAfterItWasDueIsLate() {
        opened(openedIn(9), 0, 1, 0);
    }

    static void terms_openedADayAfterItWasDueIsLate() {
        opened(openedIn(32), 0, 1, 0);
    }

    static void terms_openedWithoutADueOpeningIsOnTime() {
        VaultMovements x = Clocks.at(10);
        Clocks.shutAlways(x);
        x.wind(0, 1);
        x.lock();
        x.opening(0, 12);
        x.pass(5);
        x.open();
        opened(x, 1, 0, 0);
    }

    static void terms_dueIsTheNextOpeningWhenItWasLocked() {
        VaultMovements x = Clocks.at(7);
        x.wind(0, 5);
        x.lock();
        Cases.due("count(5)", x.count(5), 8);
        x.pass(30);
        Cases.due("count(5)", x.count(5), 8);
    }

    static void terms_lockedInTheHourOfAnOpeningTheNextOneIsDue() {
        VaultMovements x = Clocks.at(8);
        x.wind(0, 5);
        x.lock();
        Cases.due("count(5)", x.count(5), 32);
    }

    static void terms_dueIsNoneWhenThereIsNoOpening() {
        for (int hour : new int[] {0, 7, 200}) {
            VaultMovements x = Clocks.at(hour);
            Clocks.shutAlways(x);
            x.wind(0, 1);
            x.lock();
            Cases.due("count(5) in the hour " + hour, x.count(5), NONE);
        }
    }
}
