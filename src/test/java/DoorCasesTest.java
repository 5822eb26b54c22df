/** The boundaries of the promises 8 to 11: lock, open, drill, pass. */
public final class DoorCasesTest {
    private static final int NONE = VaultMovements.NONE;

    public static void main(String[] args) {
        Cases.runAll(DoorCasesTest.class);
    }

    private static VaultMovements wound() {
        VaultMovements x = new VaultMovements();
        x.wind(0, 9);
        return x;
    }

    // ---- promise 8

    static void promise8_theLockedDoorIsRefused() {
        Cases.state("lock()", x -> x.lock(), Clocks::busyLocked);
        Cases.state("lock()", x -> x.lock(), () -> Clocks.lockedWith(9, 0, 0));
    }

    static void promise8_noWoundMovementIsRefused() {
        Cases.state("lock()", x -> x.lock(), VaultMovements::new);
    }

    static void promise8_aWoundMovementThatIsStoppedIsRefused() {
        Cases.state("lock()", x -> x.lock(), DoorCasesTest::woundButStopped);
    }

    /** The movements 0 and 2 go, but have no hours to run. */
    private static VaultMovements woundButStopped() {
        VaultMovements x = new VaultMovements();
        x.wind(1, 200);
        x.fault(1, false);
        return x;
    }

    static void promise8_movementsThatHaveRunDownAreRefused() {
        Cases.state("lock()", x -> x.lock(), DoorCasesTest::allRunDown);
    }

    private static VaultMovements allRunDown() {
        VaultMovements x = Clocks.lockedWith(1, 1, 1);
        x.pass(1);
        x.open();
        return x;
    }

    static void promise8_aDrilledDoorIsRefusedUntilAServiceAndAWinding() {
        VaultMovements x = Clocks.lockedWith(9, 9, 9);
        x.drill();
        x.service(2);
        try {
            Cases.due("lock()", x.lock(), -99);
        } catch (IllegalStateException e) {
            x.wind(2, 1);
        }
        Cases.due("lock()", x.lock(), 8);
    }

    static void promise8_oneMovementWith1HourIsEnough() {
        for (int i = 0; i < 3; i++) {
            VaultMovements x = new VaultMovements();
            x.wind(i, 1);
            Cases.due("lock() with the movement " + i, x.lock(), 8);
            Cases.due("count(3)", x.count(3), 1);
        }
    }

    static void promise8_oneMovementIsEnoughThoughTheOthersAreStopped() {
        VaultMovements x = new VaultMovements();
        Clocks.wind(x, 9, 9, 9);
        x.fault(0, false);
        x.fault(1, false);
        Cases.due("lock()", x.lock(), 8);
    }

    static void promise8_aMovementThatLosesEachHourIsEnough() {
        VaultMovements x = wound();
        x.loss(0, 1);
        Cases.due("lock()", x.lock(), 8);
    }

    private static void locks(int hour, int toOpening) {
        VaultMovements x = Clocks.at(hour);
        x.wind(0, 9);
        Cases.due("lock()", x.lock(), toOpening);
        Cases.due("count(5)", x.count(5), hour + toOpening);
    }

    static void promise8_anHourAheadOfTheOpening() {
        locks(7, 1);
    }

    static void promise8_inTheHourOfAnOpening() {
        locks(8, 24);
    }

    static void promise8_anHourBehindTheOpening() {
        locks(9, 23);
    }

    static void promise8_overTheEndOfTheWeek() {
        locks(104, 72);
        locks(167, 9);
    }

    static void promise8_aWholeWeekAhead() {
        VaultMovements x = Clocks.at(8);
        Clocks.setOnlyOpening(x, 0, 8);
        x.wind(0, 9);
        Cases.due("lock()", x.lock(), 168);
        Cases.due("count(5)", x.count(5), 176);
    }

    static void promise8_noneIfNoOpeningIsDue() {
        for (int hour : new int[] {0, 1, 200}) {
            VaultMovements x = Clocks.at(hour);
            Clocks.shutAlways(x);
            x.wind(0, 9);
            Cases.due("lock() in the hour " + hour, x.lock(), NONE);
            Cases.due("count(3)", x.count(3), 1);
            Cases.due("count(5)", x.count(5), NONE);
        }
    }

    static void promise8_theDueOpeningMayBeBeyondTheLastHour() {
        VaultMovements x = Clocks.at(Clocks.LAST_HOUR);
        x.wind(0, 9);
        Cases.due("lock()", x.lock(), 17);
        Cases.due("count(5)", x.count(5), Clocks.LAST_HOUR + 17);
    }

    static void promise8_undoable() {
        Cases.undoable("lock()", x -> x.lock(), DoorCasesTest::wound);
        Cases.undoable("lock()", x -> x.lock(), Clocks::busyOpen);
    }

    static void promise8_nothingElseChanges() {
        Cases.changesOnly("lock()", x -> x.lock(), Clocks::busyOpen, "count(3)", "count(5)", "opensIn", "lateness", "keyMovement");
    }

    // ---- promise 9

    static void promise9_theOpenDoorIsRefused() {
        Cases.state("open()", x -> x.open(), VaultMovements::new);
        Cases.state("open()", x -> x.open(), Clocks::busyOpen);
    }

    static void promise9_theDoorThatWasJustOpenedIsRefused() {
        Cases.state("open()", x -> x.open(), DoorCasesTest::allRunDown);
    }

    static void promise9_returns1AndTheDoorIsOpen() {
        VaultMovements x = Clocks.lockedWithOne(1, 0);
        Cases.due("open()", x.open(), 1);
        int[] due = {0, 0, 0, 0, 8, NONE, 0, 0, 0, 1, 0, 0, 1, 0};
        for (int what = 0; what <= 13; what++) {
            Cases.due("count(" + what + ")", x.count(what), due[what]);
        }
    }

    static void promise9_returns0AndTheDoorStaysLocked() {
        VaultMovements x = Clocks.lockedWithOne(1, 1);
        Cases.due("open()", x.open(), 0);
        int[] due = {0, 0, 0, 1, 8, 8, 1, 0, 1, 0, 0, 0, 0, 0};
        for (int what = 0; what <= 13; what++) {
            Cases.due("count(" + what + ")", x.count(what), due[what]);
        }
    }

    static void promise9_theMovementsStayAsTheyAre() {
        VaultMovements x = Clocks.lockedWith(9, 2, 5);
        x.pass(2);
        x.open();
        int[] toRun = {7, 0, 3};
        for (int i = 0; i < 3; i++) {
            Cases.due("movement(" + i + ", 0)", x.movement(i, 0), toRun[i]);
            Cases.due("movement(" + i + ", 1)", x.movement(i, 1), 1);
            Cases.due("movement(" + i + ", 3)", x.movement(i, 3), 2);
        }
    }

    static void promise9_undoableWhenItOpens() {
        Cases.undoable("open()", x -> x.open(), () -> Clocks.lockedWithOne(2, 0));
    }

    static void promise9_undoableWhenItIsEarly() {
        Cases.undoable("open()", x -> x.open(), () -> Clocks.lockedWithOne(2, 1));
        Cases.undoable("open()", x -> x.open(), Clocks::busyLocked);
    }

    static void promise9_undoableWhenItMakesTheClockWait() {
        Cases.undoable("open()", x -> x.open(), () -> Clocks.lockedWithTries(1, 24));
    }

    static void promise9_anEarlyTryChangesNothingElse() {
        Cases.changesOnly("open()", x -> x.open(), Clocks::busyLocked, "count(6)", "count(7)", "count(8)", "lateness", "opensIn");
    }

    static void promise9_anOpenedDoorChangesNothingElse() {
        Cases.changesOnly("open()", x -> x.open(), DoorCasesTest::readyToOpen, "count(3)", "count(5)", "count(6)", "count(9)",
            "count(11)", "punctuality", "opensIn", "lateness", "keyMovement");
    }

    private static VaultMovements readyToOpen() {
        VaultMovements x = Clocks.busyLocked();
        x.pass(200);
        return x;
    }

    // ---- promise 10

    static void promise10_theOpenDoorIsRefused() {
        Cases.state("drill()", x -> x.drill(), VaultMovements::new);
        Cases.state("drill()", x -> x.drill(), Clocks::busyOpen);
    }

    static void promise10_theDoorThatWasJustDrilledIsRefused() {
        Cases.state("drill()", x -> x.drill(), DoorCasesTest::drilled);
    }

    private static VaultMovements drilled() {
        VaultMovements x = Clocks.lockedWith(200, 9, 0);
        x.loss(1, 20);
        x.fault(0, false);
        x.pass(4);
        x.drill();
        return x;
    }

    static void promise10_returns1ForTheFirstDoor() {
        Cases.due("drill()", Clocks.lockedWith(9, 9, 9).drill(), 1);
    }

    static void promise10_returns2ForTheSecondDoor() {
        VaultMovements x = drilled();
        x.service(2);
        x.wind(2, 9);
        x.lock();
        Cases.due("drill()", x.drill(), 2);
        Cases.due("count(13)", x.count(13), 2);
    }

    static void promise10_doorsThatOpenedAreNotDrilled() {
        VaultMovements x = Clocks.lockedWith(0, 9, 9);
        x.open();
        x.lock();
        Cases.due("drill()", x.drill(), 1);
        Cases.due("count(9)", x.count(9), 1);
    }

    static void promise10_allMovementsHave0HoursAndAreStopped() {
        VaultMovements x = drilled();
        int[][] due = {{0, 0, 0, 0}, {0, 0, 20, 4}, {0, 0, 0, 0}};
        for (int i = 0; i < 12; i++) {
            Cases.due("movement(" + i / 4 + ", " + i % 4 + ")", x.movement(i / 4, i % 4), due[i / 4][i % 4]);
        }
    }

    static void promise10_theDoorIsOpenAndNothingElseIsCounted() {
        VaultMovements x = Clocks.lockedWith(9, 9, 9);
        x.pass(8);
        x.open();
        x.drill();
        int[] due = {8, 0, 8, 0, 24, NONE, 0, 0, 1, 0, 0, 0, 0, 1};
        for (int what = 0; what <= 13; what++) {
            Cases.due("count(" + what + ")", x.count(what), due[what]);
        }
    }

    static void promise10_undoable() {
        Cases.undoable("drill()", x -> x.drill(), () -> Clocks.lockedWith(9, 0, 200));
        Cases.undoable("drill()", x -> x.drill(), Clocks::busyLocked);
    }

    static void promise10_theWaitingAndTheTriesEnd() {
        VaultMovements x = Clocks.lockedWithTries(1, 24);
        x.open();
        x.set(0, 9);
        x.open();
        x.drill();
        Cases.due("count(6)", x.count(6), 0);
        Cases.due("count(7)", x.count(7), 0);
        Cases.due("count(8)", x.count(8), 2);
    }

    static void promise10_nothingElseChanges() {
        Cases.changesOnly("drill()", x -> x.drill(), Clocks::busyLocked, "count(3)", "count(5)", "count(6)", "count(7)",
            "count(13)", "movement(0, 0)", "movement(0, 1)", "movement(0, 5)", "movement(1, 0)", "movement(1, 1)",
            "movement(1, 5)", "movement(2, 0)", "movement(2, 1)", "movement(2, 5)", "rightWinding", "punctuality", "opensIn",
            "lateness", "keyMovement");
    }

    // ---- promise 11

    static void promise11_hours0AreRefused() {
        Cases.argument("pass(0)", x -> x.pass(0));
    }

    static void promise11_hours201AreRefused() {
        Cases.argument("pass(201)", x -> x.pass(201));
    }

    static void promise11_farHoursAreRefused() {
        Cases.argument("pass(-1)", x -> x.pass(-1));
        Cases.argument("pass(FAR)", x -> x.pass(Clocks.FAR));
        Cases.argument("pass(FAR_BELOW)", x -> x.pass(Clocks.FAR_BELOW));
    }

    static void promise11_hours1() {
        VaultMovements x = new VaultMovements();
        x.pass(1);
        Cases.due("count(0)", x.count(0), 1);
    }

    static void promise11_hours200() {
        VaultMovements x = new VaultMovements();
        x.pass(200);
        Cases.due("count(0)", x.count(0), 200);
    }

    static void promise11_theHour99999IsReached() {
        VaultMovements x = Clocks.at(99799);
        Cases.due("pass(200)", x.pass(200), 3);
        Cases.due("count(0)", x.count(0), 99999);
    }

    static void promise11_theHour99999IsReachedByAnHour() {
        VaultMovements x = Clocks.at(99998);
        Cases.due("pass(1)", x.pass(1), 3);
        Cases.due("count(0)", x.count(0), 99999);
    }

    static void promise11_theHour100000IsRefused() {
        Cases.refused(IllegalStateException.class, "pass(200)", x -> x.pass(200), () -> Clocks.at(99800), 3);
    }

    static void promise11_anHourMoreThanTheLastIsRefused() {
        Cases.refused(IllegalStateException.class, "pass(1)", x -> x.pass(1), () -> Clocks.at(99999), 3);
    }

    static void promise11_theLockedDoorHasTheLastHourToo() {
        Cases.refused(IllegalStateException.class, "pass(2)", x -> x.pass(2), DoorCasesTest::lockedAnHourAheadOfTheLast, 2);
        VaultMovements x = lockedAnHourAheadOfTheLast();
        Cases.due("pass(1)", x.pass(1), 2);
        Cases.due("movement(0, 0)", x.movement(0, 0), 8);
    }

    private static VaultMovements lockedAnHourAheadOfTheLast() {
        VaultMovements x = Clocks.at(99998);
        x.wind(0, 9);
        x.lock();
        return x;
    }

    static void promise11_theHoursAreRefusedAheadOfTheLastHour() {
        Cases.refused(IllegalArgumentException.class, "pass(201)", x -> x.pass(201), () -> Clocks.at(99999), 2);
        Cases.refused(IllegalArgumentException.class, "pass(FAR)", x -> x.pass(Clocks.FAR), () -> Clocks.at(99999), 2);
    }

    private static void runDown(int due, int... hours) {
        VaultMovements x = Clocks.lockedWith(hours);
        Cases.due("pass(5)", x.pass(5), due);
    }

    static void promise11_returns0IfNoneHasRunDown() {
        runDown(0, 6, 6, 6);
    }

    static void promise11_returns1() {
        runDown(1, 6, 5, 6);
    }

    static void promise11_returns2() {
        runDown(2, 5, 6, 4);
    }

    static void promise11_returns3IfAllHave() {
        runDown(3, 1, 5, 4);
    }

    static void promise11_aMovementThatWasNotWoundIsAmongThem() {
        runDown(2, 5, 6, 0);
    }

    static void promise11_aStoppedMovementWith0HoursIsAmongThem() {
        VaultMovements x = Clocks.lockedWith(6, 6, 0);
        x.fault(2, false);
        Cases.due("pass(5)", x.pass(5), 1);
    }

    static void promise11_aStoppedMovementWithHoursIsNot() {
        VaultMovements x = Clocks.lockedWith(6, 6, 5);
        x.fault(2, false);
        Cases.due("pass(5)", x.pass(5), 0);
    }

    static void promise11_whileOpenTheyAreCountedToo() {
        VaultMovements x = wound();
        Cases.due("pass(200)", x.pass(200), 2);
    }

    static void promise11_undoableAsOneCall() {
        Cases.undoable("pass(200)", x -> x.pass(200), VaultMovements::new);
        Cases.undoable("pass(200)", x -> x.pass(200), () -> Clocks.lockedWith(9, 100, 200));
        Cases.undoable("pass(9)", x -> x.pass(9), Clocks::busyLocked);
    }

    static void promise11_nothingButMovementsIsCounted() {
        VaultMovements x = new VaultMovements();
        Clocks.setOpenings(x, 0, 0, 0, 0, 0, 0, 0);
        Clocks.wind(x, 6, 6, 6);
        Cases.due("pass(5)", x.pass(5), 0);
    }

    static void promise11_nothingElseChanges() {
        String[] time = {"count(0)", "count(1)", "count(2)", "count(4)", "rightWinding"};
        Cases.changesOnly("pass(30)", x -> x.pass(30), Clocks::busyOpen, time);
        Cases.changesOnly("pass(200)", x -> x.pass(200), Clocks::busyLocked, "count(0)", "count(1)", "count(2)", "count(4)",
            "count(7)", "movement(0, 0)", "movement(0, 3)", "movement(0, 5)", "movement(2, 0)", "movement(2, 3)",
            "movement(2, 5)", "rightWinding", "opensIn", "lateness", "keyMovement");
    }
}
