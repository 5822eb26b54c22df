/** The boundaries of the promises 21 to 24: opensIn, lateness, keyMovement, rightWinding. */
public final class ForecastCasesTest {
    private static final int NONE = VaultMovements.NONE;

    public static void main(String[] args) {
        Cases.runAll(ForecastCasesTest.class);
    }

    private static VaultMovements stoppedAll(VaultMovements x) {
        for (int i = 0; i < 3; i++) {
            x.fault(i, false);
        }
        return x;
    }

    /** A locked door that waits for these hours, whose movements have these to run. */
    private static VaultMovements waiting(int waiting, int... hours) {
        VaultMovements x = Clocks.lockedWith(hours);
        x.set(0, 1);
        x.set(1, waiting);
        x.open();
        return x;
    }

    // ---- promise 21

    private static void opensIn(VaultMovements x, int hours) {
        Cases.due("opensIn()", x.opensIn(), hours);
    }

    /** The door opens behind these hours, and not an hour ahead of them. */
    private static void opensJustBehind(VaultMovements x, int hours) {
        opensIn(x, hours);
        Clocks.pass(x, hours - 1);
        Cases.due("open() an hour ahead", x.open(), 0);
        x.undo();
        x.pass(1);
        opensIn(x, 0);
        Cases.due("open()", x.open(), 1);
    }

    static void promise21_noneWhileOpen() {
        opensIn(new VaultMovements(), NONE);
        opensIn(Clocks.busyOpen(), NONE);
    }

    static void promise21_noneWhileOpenThoughAMovementIsWound() {
        VaultMovements x = new VaultMovements();
        Clocks.wind(x, 9, 9, 9);
        opensIn(x, NONE);
    }

    static void promise21_noneWhenOpenedAgain() {
        VaultMovements x = Clocks.lockedWithOne(0, 0);
        x.open();
        opensIn(x, NONE);
    }

    static void promise21_0IfItCouldBeOpenedNow() {
        opensIn(Clocks.lockedWithOne(0, 0), 0);
        opensIn(Clocks.lockedWithOne(2, 0), 0);
    }

    static void promise21_1HourAhead() {
        opensJustBehind(Clocks.lockedWithOne(1, 1), 1);
    }

    static void promise21_200HoursAhead() {
        opensJustBehind(Clocks.lockedWith(200, 200, 200), 200);
    }

    static void promise21_theMostHoursAhead() {
        VaultMovements x = Clocks.lockedWith(200, 200, 200);
        for (int i = 0; i < 3; i++) {
            x.loss(i, 2);
        }
        opensJustBehind(x, 399);
    }

    static void promise21_theLeastOfTheMovementsCounts() {
        opensJustBehind(Clocks.lockedWith(9, 7, 8), 7);
        opensJustBehind(Clocks.lockedWith(7, 9, 8), 7);
        opensJustBehind(Clocks.lockedWith(9, 8, 7), 7);
    }

    static void promise21_neverIfAllAreStopped() {
        opensIn(stoppedAll(Clocks.lockedWith(9, 9, 9)), NONE);
    }

    static void promise21_neverIfAllLoseEachHour() {
        VaultMovements x = Clocks.lockedWith(9, 9, 9);
        for (int i = 0; i < 3; i++) {
            x.loss(i, 1);
        }
        opensIn(x, NONE);
    }

    static void promise21_neverThoughTheWaitingEnds() {
        opensIn(stoppedAll(waiting(24, 9, 9, 9)), NONE);
    }

    static void promise21_aStoppedMovementWith0HoursOpens() {
        VaultMovements x = Clocks.lockedWith(9, 0, 9);
        opensIn(stoppedAll(x), 0);
    }

    static void promise21_theWaitingIsLongerByAnHour() {
        opensJustBehind(waiting(6, 5, 9, 9), 6);
    }

    static void promise21_theWaitingIsAsLong() {
        opensJustBehind(waiting(5, 5, 9, 9), 5);
    }

    static void promise21_theWaitingIsShorterByAnHour() {
        opensJustBehind(waiting(4, 5, 9, 9), 5);
    }

    static void promise21_onlyTheWaitingIsLeft() {
        VaultMovements x = waiting(24, 1, 9, 9);
        x.pass(1);
        opensJustBehind(x, 23);
    }

    /** In the last hour, which no hour can follow. */
    private static VaultMovements lockedInTheLastHour(int... hours) {
        VaultMovements x = Clocks.at(Clocks.LAST_HOUR);
        Clocks.wind(x, hours);
        x.lock();
        return x;
    }

    static void promise21_theLimitOfHoursDoesNotMatter() {
        opensIn(lockedInTheLastHour(200, 200, 200), 200);
        opensIn(lockedInTheLastHour(200, 1, 200), 1);
    }

    static void promise21_nothingIsChanged() {
        Cases.notUndoable("opensIn()", x -> x.opensIn(), Clocks::busyLocked);
        Cases.notUndoable("opensIn()", x -> x.opensIn(), () -> Clocks.lockedWithOne(0, 0));
    }

    // ---- promise 22

    private static void lateness(VaultMovements x, int due) {
        Cases.due("lateness()", x.lateness(), due);
    }

    private static VaultMovements nothingDue(int... hours) {
        VaultMovements x = new VaultMovements();
        Clocks.shutAlways(x);
        Clocks.wind(x, hours);
        x.lock();
        return x;
    }

    static void promise22_0WhileOpen() {
        lateness(new VaultMovements(), 0);
        lateness(Clocks.busyOpen(), 0);
    }

    static void promise22_0WhenOpenedLate() {
        VaultMovements x = Clocks.lockedWithOne(0, 1);
        x.pass(30);
        x.open();
        lateness(x, 0);
    }

    static void promise22_anHourEarly() {
        lateness(Clocks.lockedWithOne(0, 7), -1);
    }

    static void promise22_onTime() {
        lateness(Clocks.lockedWithOne(0, 8), 0);
    }

    static void promise22_anHourLate() {
        lateness(Clocks.lockedWithOne(0, 9), 1);
    }

    static void promise22_theFirstTryIsInTheNextHour() {
        lateness(Clocks.lockedWithOne(0, 0), -7);
        lateness(Clocks.lockedWithOne(0, 1), -7);
        lateness(Clocks.lockedWithOne(0, 2), -6);
    }

    static void promise22_inTheHourThatIsDueItIsTriedAnHourLater() {
        VaultMovements x = Clocks.lockedWithOne(0, 8);
        x.pass(7);
        lateness(x, 0);
        x.pass(1);
        lateness(x, 1);
    }

    static void promise22_triesThatCannotOpenAreNotMade() {
        VaultMovements x = Clocks.lockedWith(20, 20, 20);
        x.set(0, 1);
        x.set(1, 24);
        lateness(x, 12);
    }

    static void promise22_itWaits() {
        VaultMovements x = waiting(9, 1, 50, 50);
        lateness(x, 1);
        x.pass(8);
        lateness(x, 1);
        x.pass(1);
        lateness(x, 2);
    }

    static void promise22_never() {
        lateness(stoppedAll(Clocks.lockedWith(9, 9, 9)), 1000);
    }

    static void promise22_neverWithoutADueOpening() {
        lateness(stoppedAll(nothingDue(9, 9, 9)), 1000);
    }

    static void promise22_0WithoutADueOpening() {
        lateness(nothingDue(9, 9, 9), 0);
        lateness(nothingDue(9, 0, 9), 0);
    }

    static void promise22_asLateAsNeverAndLater() {
        VaultMovements x = Clocks.lockedWithOne(0, 1);
        Clocks.pass(x, 1006);
        lateness(x, 999);
        x.pass(1);
        lateness(x, 1000);
        x.pass(1);
        lateness(x, 1001);
    }

    static void promise22_theDueOpeningCountsNotTheNextOne() {
        VaultMovements x = Clocks.lockedWithOne(0, 40);
        x.opening(0, 20);
        lateness(x, 32);
        x.pass(39);
        lateness(x, 32);
    }

    static void promise22_weekAheadEarly() {
        VaultMovements x = Clocks.at(8);
        Clocks.setOnlyOpening(x, 0, 8);
        Clocks.wind(x, 1, 9, 9);
        x.lock();
        lateness(x, -167);
    }

    static void promise22_theLimitOfHoursDoesNotMatter() {
        lateness(lockedInTheLastHour(200, 200, 200), 183);
        lateness(lockedInTheLastHour(200, 0, 200), -16);
    }

    static void promise22_nothingIsChanged() {
        Cases.notUndoable("lateness()", x -> x.lateness(), Clocks::busyLocked);
        Cases.notUndoable("lateness()", x -> x.lateness(), () -> Clocks.lockedWithOne(0, 0));
    }

    // ---- promise 23

    private static void keyMovement(VaultMovements x, int movement) {
        Cases.due("keyMovement()", x.keyMovement(), movement);
    }

    static void promise23_noneWhileOpen() {
        keyMovement(new VaultMovements(), NONE);
        VaultMovements x = new VaultMovements();
        Clocks.wind(x, 9, 5, 7);
        keyMovement(x, NONE);
    }

    static void promise23_theFirstMovement() {
        keyMovement(Clocks.lockedWith(7, 8, 9), 0);
    }

    static void promise23_theMiddleMovement() {
        keyMovement(Clocks.lockedWith(8, 7, 9), 1);
    }

    static void promise23_theLastMovement() {
        keyMovement(Clocks.lockedWith(9, 8, 7), 2);
    }

    static void promise23_noneIfTwoRunDownTogether() {
        keyMovement(Clocks.lockedWith(7, 7, 9), NONE);
        keyMovement(Clocks.lockedWith(9, 7, 7), NONE);
        keyMovement(Clocks.lockedWith(7, 9, 7), NONE);
    }

    static void promise23_noneIfOneHasRunDown() {
        keyMovement(Clocks.lockedWith(0, 7, 9), NONE);
        keyMovement(Clocks.lockedWith(9, 7, 0), NONE);
    }

    static void promise23_noneIfItNeverOpens() {
        keyMovement(stoppedAll(Clocks.lockedWith(7, 8, 9)), NONE);
    }

    static void promise23_theOnlyOneThatGoes() {
        VaultMovements x = Clocks.lockedWith(7, 8, 9);
        x.fault(0, false);
        x.loss(1, 1);
        keyMovement(x, 2);
    }

    static void promise23_aStoppedOneIsNot() {
        VaultMovements x = Clocks.lockedWith(7, 8, 9);
        x.fault(0, false);
        keyMovement(x, 1);
    }

    static void promise23_byItsLossNotByItsHours() {
        VaultMovements x = Clocks.lockedWith(7, 8, 9);
        x.loss(0, 2);
        keyMovement(x, 1);
        x.loss(1, 3);
        keyMovement(x, 2);
    }

    static void promise23_noneIfTheWaitingIsAsLongAsTheSecond() {
        keyMovement(waiting(6, 3, 6, 9), NONE);
        keyMovement(waiting(7, 3, 6, 9), NONE);
    }

    static void promise23_theWaitingIsAnHourShorterThanTheSecond() {
        keyMovement(waiting(5, 3, 6, 9), 0);
    }

    static void promise23_neverWithoutItThoughItWaits() {
        VaultMovements x = waiting(24, 9, 9, 3);
        x.fault(0, false);
        x.fault(1, false);
        keyMovement(x, 2);
    }

    static void promise23_theLimitOfHoursDoesNotMatter() {
        keyMovement(lockedInTheLastHour(200, 1, 200), 1);
    }

    static void promise23_nothingIsChanged() {
        Cases.notUndoable("keyMovement()", x -> x.keyMovement(), Clocks::busyLocked);
        Cases.notUndoable("keyMovement()", x -> x.keyMovement(), () -> Clocks.lockedWith(7, 8, 9));
    }

    // ---- promise 24

    static void promise24_movementMinus1IsRefused() {
        Cases.index("rightWinding(-1)", x -> x.rightWinding(-1));
    }

    static void promise24_movement3IsRefused() {
        Cases.index("rightWinding(3)", x -> x.rightWinding(3));
    }

    static void promise24_farMovementsAreRefused() {
        Cases.index("rightWinding(FAR)", x -> x.rightWinding(Clocks.FAR));
        Cases.index("rightWinding(FAR_BELOW)", x -> x.rightWinding(Clocks.FAR_BELOW));
    }

    private static void rightWinding(VaultMovements x, int movement, int due) {
        Cases.due("rightWinding(" + movement + ")", x.rightWinding(movement), due);
    }

    static void promise24_theFirstAndTheLastMovement() {
        VaultMovements x = new VaultMovements();
        x.loss(1, 3);
        x.loss(2, 5);
        rightWinding(x, 0, 8);
        rightWinding(x, 1, 6);
        rightWinding(x, 2, 7);
    }

    static void promise24_anHourAheadOfTheOpening() {
        rightWinding(Clocks.at(7), 0, 1);
    }

    static void promise24_inTheHourOfAnOpening() {
        rightWinding(Clocks.at(8), 0, 24);
    }

    static void promise24_aWholeWeekAhead() {
        VaultMovements x = Clocks.at(8);
        Clocks.setOnlyOpening(x, 0, 8);
        rightWinding(x, 0, 168);
        x.loss(0, 20);
        rightWinding(x, 0, 160);
    }

    static void promise24_noneWithoutAnOpening() {
        VaultMovements x = new VaultMovements();
        Clocks.shutAlways(x);
        rightWinding(x, 0, NONE);
        rightWinding(x, 2, NONE);
    }

    static void promise24_noneIfItIsStopped() {
        VaultMovements x = new VaultMovements();
        x.fault(2, false);
        rightWinding(x, 2, NONE);
        rightWinding(x, 1, 8);
    }

    static void promise24_noneIfEachHourIsLost() {
        VaultMovements x = new VaultMovements();
        x.loss(0, 1);
        rightWinding(x, 0, NONE);
    }

    static void promise24_noneIfTheLastHourIsLost() {
        VaultMovements x = new VaultMovements();
        for (int loss : new int[] {2, 4, 8}) {
            x.loss(0, loss);
            rightWinding(x, 0, NONE);
        }
    }

    static void promise24_theHourAheadOfTheLastIsLost() {
        VaultMovements x = new VaultMovements();
        x.loss(0, 7);
        rightWinding(x, 0, 7);
    }

    static void promise24_theHourBehindTheLastIsLost() {
        VaultMovements x = new VaultMovements();
        x.loss(0, 9);
        rightWinding(x, 0, 8);
    }

    static void promise24_theHoursSinceTheServiceCount() {
        VaultMovements x = Clocks.lockedWith(1, 9, 9);
        x.pass(1);
        x.open();
        x.loss(0, 8);
        x.loss(1, 7);
        x.loss(2, 2);
        rightWinding(x, 0, NONE);
        rightWinding(x, 1, 6);
        rightWinding(x, 2, NONE);
        x.service(0);
        x.loss(0, 8);
        rightWinding(x, 0, 7);
    }

    static void promise24_theHoursSinceTheServiceMayBeMoreThanTheLoss() {
        VaultMovements x = Clocks.lockedWith(9, 9, 9);
        x.pass(9);
        x.loss(0, 4);
        x.loss(1, 3);
        x.loss(2, 9);
        rightWinding(x, 0, NONE);
        rightWinding(x, 1, 16);
        rightWinding(x, 2, 21);
        x.loss(0, 5);
        rightWinding(x, 0, 18);
    }

    static void promise24_theHoursThatAreLostAreNotWound() {
        VaultMovements x = Clocks.at(8);
        Clocks.setOnlyOpening(x, 0, 8);
        x.loss(0, 5);
        rightWinding(x, 0, 135);
        x.opening(0, 7);
        x.loss(0, 2);
        rightWinding(x, 0, 84);
    }

    static void promise24_theHoursThatItHasDoNotMatter() {
        VaultMovements x = new VaultMovements();
        x.wind(0, 200);
        rightWinding(x, 0, 8);
    }

    static void promise24_theSettingAndTheDueOpeningDoNotMatter() {
        VaultMovements x = Clocks.lockedWith(99, 99, 99);
        x.pass(8);
        rightWinding(x, 0, 24);
    }

    static void promise24_woundSoItOpensOnTime() {
        VaultMovements x = Clocks.at(104);
        x.loss(1, 5);
        Clocks.wind(x, 200, x.rightWinding(1), 200);
        Cases.due("lock()", x.lock(), 72);
        Cases.due("lateness()", x.lateness(), 0);
        x.pass(71);
        Cases.due("movement(1, 0)", x.movement(1, 0), 1);
        x.pass(1);
        Cases.due("movement(1, 0)", x.movement(1, 0), 0);
        x.open();
        Cases.due("count(10)", x.count(10), 1);
    }

    static void promise24_theLimitOfHoursDoesNotMatter() {
        rightWinding(Clocks.at(Clocks.LAST_HOUR), 0, 17);
    }

    static void promise24_nothingIsChanged() {
        Cases.notUndoable("rightWinding(0)", x -> x.rightWinding(0), Clocks::busyOpen);
        Cases.notUndoable("rightWinding(2)", x -> x.rightWinding(2), Clocks::busyLocked);
    }
}
