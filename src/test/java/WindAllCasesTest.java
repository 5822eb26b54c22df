/** The boundaries of the promises 15 and 16 and of "Undo": windAll, undo. */
public final class WindAllCasesTest {
    public static void main(String[] args) {
        Cases.runAll(WindAllCasesTest.class);
    }

    // ---- promise 15

    private static void incomplete(String text) {
        Cases.argument("windAll() of " + text, x -> x.windAll(), () -> Clocks.typed(text));
    }

    static void promise15_theEmptyBufferIsRefused() {
        incomplete("");
    }

    static void promise15_onePartIsRefused() {
        incomplete("1");
        incomplete("1,");
    }

    static void promise15_twoPartsAreRefused() {
        incomplete("1,n+9");
        incomplete("1,n,");
    }

    static void promise15_aSignWithoutItsNumberIsRefused() {
        incomplete("1,2,n+");
        incomplete("-,-,n-");
    }

    static void promise15_aFourthPartIsRefused() {
        incomplete("1,2,3,");
        incomplete("-,-,-,-");
    }

    static void promise15_anErrorAtTheEndIsRefused() {
        incomplete("1,2,3x");
        incomplete("1,2,201");
        incomplete("-,-,n+10");
    }

    static void promise15_anErrorAtTheStartIsRefused() {
        incomplete("0,2,3");
        incomplete("01,2,3");
        incomplete("x");
    }

    static void promise15_theFullBufferIsRefused() {
        Cases.argument("windAll()", x -> x.windAll(), Clocks::fullBuffer);
        incomplete("n+9,n+9,n+9" + ",".repeat(49));
    }

    private static VaultMovements lockedWithText(String text) {
        VaultMovements x = Clocks.lockedWith(9, 9, 9);
        Checks.type(x, text);
        return x;
    }

    static void promise15_theLockedDoorIsRefused() {
        Cases.state("windAll()", x -> x.windAll(), () -> lockedWithText("5,5,5"));
        Cases.state("windAll()", x -> x.windAll(), Clocks::busyLocked);
    }

    static void promise15_theLockedDoorIsRefusedThoughNothingWouldBeWound() {
        Cases.state("windAll()", x -> x.windAll(), () -> lockedWithText("-,-,-"));
    }

    static void promise15_theTextIsRefusedAheadOfTheLockedDoor() {
        Cases.argument("windAll()", x -> x.windAll(), () -> lockedWithText("5,5"));
        Cases.argument("windAll()", x -> x.windAll(), () -> lockedWithText(""));
        Cases.argument("windAll()", x -> x.windAll(), () -> lockedWithText("5,5,5,"));
    }

    private static VaultMovements stopped(int movement, String text) {
        VaultMovements x = Clocks.typed(text);
        x.fault(movement, false);
        return x;
    }

    static void promise15_theTextIsRefusedAheadOfTheStoppedMovement() {
        Cases.argument("windAll()", x -> x.windAll(), () -> stopped(0, "5,5,5x"));
    }

    static void promise15_theTextIsRefusedAheadOfTheHours() {
        Cases.argument("windAll()", x -> x.windAll(), () -> Clocks.typed("n-9,5"));
    }

    static void promise15_theStoppedMovementIsRefused() {
        for (int i = 0; i < 3; i++) {
            int movement = i;
            Cases.state("windAll(), stopped " + i, x -> x.windAll(), () -> stopped(movement, "5,n,7"));
        }
    }

    static void promise15_theStoppedMovementThatIsLeftAsItIsIsNot() {
        String[] texts = {"-,5,6", "5,-,6", "5,6,-"};
        for (int i = 0; i < 3; i++) {
            Cases.due("windAll() of " + texts[i], stopped(i, texts[i]).windAll(), 2);
        }
    }

    private static VaultMovements shut(String text) {
        VaultMovements x = new VaultMovements();
        Clocks.shutAlways(x);
        Checks.type(x, text);
        return x;
    }

    static void promise15_noOpeningForAnNIsRefused() {
        Cases.state("windAll()", x -> x.windAll(), () -> shut("n,5,5"));
        Cases.state("windAll()", x -> x.windAll(), () -> shut("5,n-1,5"));
        Cases.state("windAll()", x -> x.windAll(), () -> shut("-,-,n+9"));
        Cases.state("windAll()", x -> x.windAll(), () -> shut("-,-,n+2"));
    }

    static void promise15_noOpeningIsNeededWithoutAnN() {
        VaultMovements x = shut("1,-,200");
        Cases.due("windAll()", x.windAll(), 2);
        Cases.due("movement(0, 0)", x.movement(0, 0), 1);
        Cases.due("movement(2, 0)", x.movement(2, 0), 200);
    }

    static void promise15_hours0AreRefused() {
        Cases.state("windAll()", x -> x.windAll(), () -> Clocks.typed("n-8,5,5"));
        Cases.state("windAll()", x -> x.windAll(), () -> Clocks.typed("5,5,n-8"));
    }

    static void promise15_hoursBelow0AreRefused() {
        Cases.state("windAll()", x -> x.windAll(), () -> Clocks.typed("n-9,5,5"));
        Cases.state("windAll()", x -> x.windAll(), () -> Clocks.typed("5,n-9,5"));
    }

    static void promise15_hours1OfAnN() {
        VaultMovements x = Clocks.typed("n-7,-,-");
        Cases.due("windAll()", x.windAll(), 1);
        Cases.due("movement(0, 0)", x.movement(0, 0), 1);
    }

    static void promise15_theMostHoursOfAnN() {
        VaultMovements x = Clocks.at(8);
        Clocks.setOnlyOpening(x, 0, 8);
        Checks.type(x, "n+9,n,n-9");
        Cases.due("windAll()", x.windAll(), 3);
        Cases.due("movement(0, 0)", x.movement(0, 0), 177);
        Cases.due("movement(1, 0)", x.movement(1, 0), 168);
        Cases.due("movement(2, 0)", x.movement(2, 0), 159);
    }

    static void promise15_theLeastHoursToAnOpening() {
        VaultMovements x = Clocks.at(167);
        x.opening(0, 0);
        Checks.type(x, "n,n+1,n+9");
        Cases.due("windAll()", x.windAll(), 3);
        Cases.due("movement(0, 0)", x.movement(0, 0), 1);
        Cases.due("movement(1, 0)", x.movement(1, 0), 2);
        Cases.due("movement(2, 0)", x.movement(2, 0), 10);
    }

    static void promise15_noneIsWoundIfTheThirdCannot() {
        VaultMovements x = stopped(2, "5,6,7");
        Cases.state("windAll()", y -> y.windAll(), () -> stopped(2, "5,6,7"));
        try {
            Cases.due("windAll()", x.windAll(), -99);
        } catch (IllegalStateException e) {
            Cases.due("movement(0, 0)", x.movement(0, 0), 0);
        }
        Cases.due("movement(1, 0)", x.movement(1, 0), 0);
        Cases.due("clearBuffer()", x.clearBuffer(), 5);
    }

    private static void winds(String text, int count, int... hours) {
        VaultMovements x = new VaultMovements();
        Clocks.wind(x, 101, 102, 103);
        Checks.type(x, text);
        Cases.due("windAll() of " + text, x.windAll(), count);
        for (int i = 0; i < 3; i++) {
            Cases.due("movement(" + i + ", 0)", x.movement(i, 0), hours[i]);
        }
        Cases.due("clearBuffer()", x.clearBuffer(), 0);
    }

    static void promise15_returns0IfNothingIsWound() {
        winds("-,-,-", 0, 101, 102, 103);
    }

    static void promise15_returns1() {
        winds("5,-,-", 1, 5, 102, 103);
        winds("-,5,-", 1, 101, 5, 103);
        winds("-,-,5", 1, 101, 102, 5);
    }

    static void promise15_returns2() {
        winds("n,-,200", 2, 8, 102, 200);
    }

    static void promise15_returns3() {
        winds("1,200,n+9", 3, 1, 200, 17);
    }

    static void promise15_aMovementThatIsWoundToTheHoursItHasCountsToo() {
        winds("101,102,103", 3, 101, 102, 103);
    }

    static void promise15_nothingWoundNeedsNoMovementThatGoes() {
        VaultMovements x = Clocks.lockedWith(9, 9, 9);
        x.drill();
        Checks.type(x, "-,-,-");
        Cases.due("windAll()", x.windAll(), 0);
        Cases.due("clearBuffer()", x.clearBuffer(), 0);
    }

    static void promise15_aLongerTextThatWasClearedIsGone() {
        VaultMovements x = Clocks.typed("1,2,34");
        x.clearBuffer();
        Checks.type(x, "1,2,3");
        Cases.due("windAll()", x.windAll(), 3);
        Cases.due("movement(2, 0)", x.movement(2, 0), 3);
    }

    static void promise15_aTextThatWasWoundIsGone() {
        Cases.argument("windAll()", x -> x.windAll(), () -> {
            VaultMovements x = Clocks.typed("1,2,3");
            x.windAll();
            Checks.type(x, "1,2");
            return x;
        });
    }

    static void promise15_nothingElseChanges() {
        Cases.changesOnly("windAll()", x -> x.windAll(), WindAllCasesTest::busyWithWindings, "movement(0, 0)", "movement(0, 5)",
            "movement(1, 0)", "movement(1, 5)");
    }

    static void promise15_undoableAsOneCall() {
        Cases.undoable("windAll()", x -> x.windAll(), () -> Clocks.typed("1,n+9,200"));
        Cases.undoable("windAll()", x -> x.windAll(), WindAllCasesTest::busyWithWindings);
    }

    private static VaultMovements busyWithWindings() {
        VaultMovements x = Clocks.busyOpen();
        Checks.type(x, ",-");
        return x;
    }

    static void promise15_savesThoughNothingIsWound() {
        Cases.undoable("windAll()", x -> x.windAll(), () -> Clocks.typed("-,-,-"));
    }

    static void promise15_undoDoesNotBringTheTextBack() {
        VaultMovements x = Clocks.typed("1,2,3");
        x.windAll();
        x.undo();
        Cases.due("clearBuffer()", x.clearBuffer(), 0);
    }

    // ---- promise 16

    static void promise16_withoutASavedStateItIsRefused() {
        Cases.state("undo()", x -> x.undo(), VaultMovements::new);
        Cases.state("undo()", x -> x.undo(), Clocks::fullBuffer);
    }

    static void promise16_behindTheLastSavedStateItIsRefused() {
        Cases.state("undo()", x -> x.undo(), () -> {
            VaultMovements x = new VaultMovements();
            x.pass(1);
            x.undo();
            return x;
        });
    }

    static void promise16_oneSavedStateReturns0() {
        VaultMovements x = new VaultMovements();
        x.wind(0, 5);
        Cases.due("undo()", x.undo(), 0);
        Cases.due("digest()", x.digest(), new VaultMovements().digest());
    }

    /** A clock whose movement 0 was wound to 1, 2, .. hours, each a saved state. */
    private static VaultMovements woundTimes(int times) {
        VaultMovements x = new VaultMovements();
        for (int hours = 1; hours <= times; hours++) {
            x.wind(0, hours);
        }
        return x;
    }

    static void promise16_sixStatesAreSaved() {
        VaultMovements x = woundTimes(6);
        Cases.due("count(14)", x.count(14), 6);
        for (int left = 5; left >= 0; left--) {
            Cases.due("undo()", x.undo(), left);
            Cases.due("movement(0, 0)", x.movement(0, 0), left);
        }
    }

    static void promise16_theSeventhDropsTheOldest() {
        VaultMovements x = woundTimes(7);
        Cases.due("count(14)", x.count(14), 6);
        for (int left = 5; left >= 0; left--) {
            Cases.due("undo()", x.undo(), left);
            Cases.due("movement(0, 0)", x.movement(0, 0), left + 1);
        }
        Cases.state("undo()", y -> y.undo(), () -> {
            VaultMovements y = woundTimes(7);
            for (int i = 0; i < 6; i++) {
                y.undo();
            }
            return y;
        });
    }

    static void promise16_manyMoreDropAllButSix() {
        VaultMovements x = woundTimes(50);
        for (int left = 5; left >= 0; left--) {
            Cases.due("undo()", x.undo(), left);
            Cases.due("movement(0, 0)", x.movement(0, 0), left + 44);
        }
    }

    static void promise16_theOnePlaceLeftIsTaken() {
        VaultMovements x = woundTimes(8);
        x.undo();
        Cases.due("count(14)", x.count(14), 5);
        x.wind(0, 100);
        Cases.due("count(14)", x.count(14), 6);
        x.undo();
        Cases.due("movement(0, 0)", x.movement(0, 0), 7);
        for (int left = 4; left >= 0; left--) {
            Cases.due("undo()", x.undo(), left);
            Cases.due("movement(0, 0)", x.movement(0, 0), left + 2);
        }
    }

    static void promise16_undoSavesNothingItself() {
        VaultMovements x = woundTimes(3);
        x.undo();
        x.undo();
        Cases.due("count(14)", x.count(14), 1);
        Cases.due("movement(0, 0)", x.movement(0, 0), 1);
    }

    static void promise16_aRefusedCallSavesNothing() {
        VaultMovements x = woundTimes(2);
        try {
            Cases.due("wind(0, 201)", x.wind(0, 201), -99);
        } catch (IllegalArgumentException e) {
            Cases.due("count(14)", x.count(14), 2);
        }
        x.undo();
        Cases.due("movement(0, 0)", x.movement(0, 0), 1);
    }

    static void promise16_theBufferIsNotRestored() {
        VaultMovements x = woundTimes(1);
        Checks.type(x, "n,n");
        x.undo();
        Cases.due("digest()", x.digest(), Clocks.typed("n,n").digest());
    }

    static void promise16_theBufferIsNotRestoredThoughItWasShorter() {
        VaultMovements x = Clocks.typed("n,n,n");
        x.wind(0, 1);
        x.clearBuffer();
        x.append('5');
        x.undo();
        Cases.due("digest()", x.digest(), Clocks.typed("5").digest());
    }

    static void promise16_whatIsCountedIsRestored() {
        VaultMovements x = Clocks.lockedWithOne(0, 0);
        long locked = x.digest();
        x.open();
        Cases.due("count(9)", x.count(9), 1);
        x.undo();
        Cases.due("count(9)", x.count(9), 0);
        Cases.due("count(12)", x.count(12), 0);
        Cases.due("digest()", x.digest(), locked);
    }

    static void promise16_theEarlyTriesAreRestored() {
        VaultMovements x = Clocks.lockedWith(9, 9, 9);
        Clocks.tryTimes(x, 2);
        x.open();
        x.undo();
        Cases.due("count(6)", x.count(6), 2);
        Cases.due("count(7)", x.count(7), 0);
        Cases.due("count(8)", x.count(8), 2);
        x.undo();
        Cases.due("count(6)", x.count(6), 1);
        Cases.due("count(8)", x.count(8), 1);
    }

    static void promise16_theWaitingIsRestored() {
        VaultMovements x = Clocks.lockedWithTries(1, 5);
        x.open();
        x.pass(4);
        Cases.due("count(7)", x.count(7), 1);
        x.undo();
        Cases.due("count(7)", x.count(7), 5);
        x.drill();
        x.undo();
        Cases.due("count(7)", x.count(7), 5);
    }

    static void promise16_theDueOpeningIsRestored() {
        VaultMovements x = Clocks.lockedWithOne(0, 1);
        x.pass(30);
        x.open();
        x.undo();
        Cases.due("count(5)", x.count(5), 8);
    }

    static void promise16_theDrilledDoorsAreRestored() {
        VaultMovements x = Clocks.lockedWith(9, 9, 9);
        x.drill();
        x.undo();
        Cases.due("count(13)", x.count(13), 0);
        Cases.due("drill()", x.drill(), 1);
    }

    static void promise16_theSettingsAndOpeningsAreRestored() {
        VaultMovements x = new VaultMovements();
        x.set(2, 5000);
        x.opening(6, 23);
        x.undo();
        Cases.due("day(6)", x.day(6), VaultMovements.NONE);
        Cases.due("setting(2)", x.setting(2), 5000);
        x.undo();
        Cases.due("setting(2)", x.setting(2), 500);
    }

    static void promise16_eachSavedStateIsWhole() {
        Cases.Call[] calls = {x -> x.loss(2, 20), x -> x.wind(2, 200), x -> x.opening(6, 23), x -> x.set(2, 10), x -> x.lock(),
            x -> x.pass(3), x -> x.loss(2, 3), x -> x.pass(4), x -> x.open(), x -> x.fault(2, false), x -> x.service(2)};
        VaultMovements x = new VaultMovements();
        for (Cases.Call call : calls) {
            call.on(x);
        }
        for (int left = calls.length - 1; left >= calls.length - 6; left--) {
            x.undo();
            VaultMovements twin = new VaultMovements();
            for (int i = 0; i < left; i++) {
                calls[i].on(twin);
            }
            Cases.sameLooks("with " + left + " calls left", x, twin);
        }
    }
}
