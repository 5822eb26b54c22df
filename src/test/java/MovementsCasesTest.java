/** The boundaries of the promises 4 to 7: wind, fault, loss, service. */
public final class MovementsCasesTest {
    public static void main(String[] args) {
        Cases.runAll(MovementsCasesTest.class);
    }

    /** One property of one movement becomes this, and nothing else of any movement changes, but what follows from it. */
    private static void onlyChanges(VaultMovements x, VaultMovements before, int movement, int what, int value) {
        for (int i = 0; i < 12; i++) {
            boolean changed = i / 4 == movement && i % 4 == what;
            Cases.due("movement(" + i / 4 + ", " + i % 4 + ")", x.movement(i / 4, i % 4),
                changed ? value : before.movement(i / 4, i % 4));
        }
    }

    // ---- promise 4

    private static void winds(int movement, int hours) {
        VaultMovements x = new VaultMovements();
        Cases.due("wind(" + movement + ", " + hours + ")", x.wind(movement, hours), 0);
        onlyChanges(x, new VaultMovements(), movement, 0, hours);
    }

    static void promise4_movementMinus1IsRefused() {
        Cases.index("wind(-1, 5)", x -> x.wind(-1, 5));
    }

    static void promise4_movement3IsRefused() {
        Cases.index("wind(3, 5)", x -> x.wind(3, 5));
    }

    static void promise4_farMovementsAreRefused() {
        Cases.index("wind(FAR, 5)", x -> x.wind(Clocks.FAR, 5));
        Cases.index("wind(FAR_BELOW, 5)", x -> x.wind(Clocks.FAR_BELOW, 5));
    }

    static void promise4_theFirstMovement() {
        winds(0, 7);
    }

    static void promise4_theLastMovement() {
        winds(2, 7);
    }

    static void promise4_hours0AreRefused() {
        Cases.argument("wind(0, 0)", x -> x.wind(0, 0));
    }

    static void promise4_hours1() {
        winds(1, 1);
    }

    static void promise4_hours200() {
        winds(1, 200);
    }

    static void promise4_hours201AreRefused() {
        Cases.argument("wind(0, 201)", x -> x.wind(0, 201));
    }

    static void promise4_farHoursAreRefused() {
        Cases.argument("wind(0, -1)", x -> x.wind(0, -1));
        Cases.argument("wind(0, FAR)", x -> x.wind(0, Clocks.FAR));
        Cases.argument("wind(0, FAR_BELOW)", x -> x.wind(0, Clocks.FAR_BELOW));
    }

    static void promise4_theLockedDoorIsRefused() {
        Cases.state("wind(0, 5)", x -> x.wind(0, 5), Clocks::busyLocked);
        Cases.state("wind(0, 5)", x -> x.wind(0, 5), () -> Clocks.lockedWith(0, 9, 9));
    }

    static void promise4_theStoppedMovementIsRefused() {
        Cases.state("wind(2, 5)", x -> x.wind(2, 5), Clocks::busyOpen);
        Cases.state("wind(0, 5)", x -> x.wind(0, 5), () -> stopped(0));
    }

    private static VaultMovements stopped(int movement) {
        VaultMovements x = new VaultMovements();
        x.fault(movement, false);
        return x;
    }

    static void promise4_theLockedDoorAndTheStoppedMovementAreRefused() {
        Cases.state("wind(1, 5)", x -> x.wind(1, 5), Clocks::busyLocked);
    }

    static void promise4_onlyTheStoppedMovementIsRefused() {
        VaultMovements x = stopped(1);
        Cases.due("wind(0, 5)", x.wind(0, 5), 0);
        Cases.due("wind(2, 5)", x.wind(2, 5), 0);
    }

    static void promise4_theMovementIsRefusedAheadOfTheHours() {
        Cases.index("wind(3, 0)", x -> x.wind(3, 0));
        Cases.index("wind(-1, 201)", x -> x.wind(-1, 201));
    }

    static void promise4_theHoursAreRefusedAheadOfTheLockedDoor() {
        Cases.argument("wind(0, 201)", x -> x.wind(0, 201), () -> Clocks.lockedWith(9, 9, 9));
        Cases.argument("wind(0, 0)", x -> x.wind(0, 0), () -> Clocks.lockedWith(9, 9, 9));
    }

    static void promise4_theHoursAreRefusedAheadOfTheStoppedMovement() {
        Cases.argument("wind(0, 0)", x -> x.wind(0, 0), () -> stopped(0));
    }

    static void promise4_theMovementIsRefusedAheadOfTheLockedDoor() {
        Cases.refused(IndexOutOfBoundsException.class, "wind(3, 5)", x -> x.wind(3, 5), () -> Clocks.lockedWith(9, 9, 9));
    }

    static void promise4_returnsTheHoursThatItHad() {
        VaultMovements x = new VaultMovements();
        Cases.due("wind(0, 200)", x.wind(0, 200), 0);
        Cases.due("wind(0, 1)", x.wind(0, 1), 200);
        Cases.due("wind(0, 1)", x.wind(0, 1), 1);
        Cases.due("movement(0, 0), not added up", x.movement(0, 0), 1);
    }

    static void promise4_returnsTheHoursThatAreLeft() {
        VaultMovements x = Clocks.lockedWith(3, 9, 9);
        x.pass(4);
        x.open();
        Cases.due("wind(0, 5)", x.wind(0, 5), 0);
        Cases.due("wind(1, 4)", x.wind(1, 4), 5);
        Cases.due("movement(1, 3)", x.movement(1, 3), 4);
    }

    static void promise4_undoable() {
        Cases.undoable("wind(0, 200)", x -> x.wind(0, 200), VaultMovements::new);
        Cases.undoable("wind(0, 200)", x -> x.wind(0, 200), Clocks::busyOpen);
    }

    static void promise4_savesThoughNothingChanges() {
        Cases.undoable("wind(1, 30)", x -> x.wind(1, 30), Clocks::busyOpen);
        Cases.undoable("wind(1, 30)", x -> x.wind(1, 30), () -> {
            VaultMovements x = new VaultMovements();
            x.wind(1, 30);
            return x;
        });
    }

    static void promise4_nothingElseChanges() {
        Cases.changesOnly("wind(0, 200)", x -> x.wind(0, 200), Clocks::busyOpen, "movement(0, 0)", "movement(0, 5)");
        Cases.changesOnly("wind(1, 1)", x -> x.wind(1, 1), Clocks::busyOpen, "movement(1, 0)", "movement(1, 5)");
    }

    // ---- promise 5

    static void promise5_movementMinus1IsRefused() {
        Cases.index("fault(-1, false)", x -> x.fault(-1, false));
    }

    static void promise5_movement3IsRefused() {
        Cases.index("fault(3, true)", x -> x.fault(3, true));
    }

    static void promise5_farMovementsAreRefused() {
        Cases.index("fault(FAR, false)", x -> x.fault(Clocks.FAR, false));
        Cases.index("fault(FAR_BELOW, true)", x -> x.fault(Clocks.FAR_BELOW, true));
    }

    private static void stops(int movement) {
        VaultMovements x = new VaultMovements();
        Cases.due("fault(" + movement + ", false)", x.fault(movement, false), 1);
        onlyChanges(x, new VaultMovements(), movement, 1, 0);
    }

    static void promise5_theFirstMovement() {
        stops(0);
    }

    static void promise5_theLastMovement() {
        stops(2);
    }

    static void promise5_returns1IfItWent() {
        VaultMovements x = new VaultMovements();
        Cases.due("fault(1, true)", x.fault(1, true), 1);
        Cases.due("fault(1, false)", x.fault(1, false), 1);
    }

    static void promise5_returns0IfItWasStopped() {
        VaultMovements x = stopped(1);
        Cases.due("fault(1, false)", x.fault(1, false), 0);
        Cases.due("fault(1, true)", x.fault(1, true), 0);
        Cases.due("movement(1, 1)", x.movement(1, 1), 1);
    }

    static void promise5_whileLocked() {
        VaultMovements x = Clocks.lockedWith(9, 9, 9);
        Cases.due("fault(1, false)", x.fault(1, false), 1);
        Cases.due("movement(1, 1)", x.movement(1, 1), 0);
        Cases.due("fault(1, true)", x.fault(1, true), 0);
        Cases.due("movement(1, 1)", x.movement(1, 1), 1);
    }

    static void promise5_theHoursStay() {
        VaultMovements x = Clocks.lockedWith(9, 9, 9);
        x.loss(0, 20);
        x.pass(3);
        x.fault(0, false);
        Cases.due("movement(0, 0)", x.movement(0, 0), 6);
        Cases.due("movement(0, 2)", x.movement(0, 2), 20);
        Cases.due("movement(0, 3)", x.movement(0, 3), 3);
    }

    static void promise5_undoable() {
        Cases.undoable("fault(2, false)", x -> x.fault(2, false), VaultMovements::new);
        Cases.undoable("fault(1, true)", x -> x.fault(1, true), Clocks::busyLocked);
    }

    static void promise5_savesThoughNothingChanges() {
        Cases.undoable("fault(0, true)", x -> x.fault(0, true), VaultMovements::new);
    }

    static void promise5_nothingElseChanges() {
        Cases.changesOnly("fault(2, true)", x -> x.fault(2, true), Clocks::busyOpen, "movement(2, 1)", "rightWinding(2)");
        Cases.changesOnly("fault(1, true)", x -> x.fault(1, true), Clocks::busyLocked, "movement(1, 1)", "movement(1, 5)",
            "rightWinding(1)", "opensIn", "lateness", "keyMovement");
    }

    // ---- promise 6

    static void promise6_movementMinus1IsRefused() {
        Cases.index("loss(-1, 5)", x -> x.loss(-1, 5));
    }

    static void promise6_movement3IsRefused() {
        Cases.index("loss(3, 5)", x -> x.loss(3, 5));
    }

    static void promise6_farMovementsAreRefused() {
        Cases.index("loss(FAR, 5)", x -> x.loss(Clocks.FAR, 5));
        Cases.index("loss(FAR_BELOW, 5)", x -> x.loss(Clocks.FAR_BELOW, 5));
    }

    static void promise6_lossMinus1IsRefused() {
        Cases.argument("loss(0, -1)", x -> x.loss(0, -1));
    }

    static void promise6_loss21IsRefused() {
        Cases.argument("loss(2, 21)", x -> x.loss(2, 21));
    }

    static void promise6_farLossesAreRefused() {
        Cases.argument("loss(0, FAR)", x -> x.loss(0, Clocks.FAR));
        Cases.argument("loss(0, FAR_BELOW)", x -> x.loss(0, Clocks.FAR_BELOW));
    }

    static void promise6_theMovementIsRefusedAheadOfTheLoss() {
        Cases.index("loss(3, 21)", x -> x.loss(3, 21));
        Cases.index("loss(-1, -1)", x -> x.loss(-1, -1));
    }

    private static void loses(int movement, int loss) {
        VaultMovements x = new VaultMovements();
        Cases.due("loss(" + movement + ", " + loss + ")", x.loss(movement, loss), 0);
        onlyChanges(x, new VaultMovements(), movement, 2, loss);
    }

    static void promise6_theFirstMovement() {
        loses(0, 7);
    }

    static void promise6_theLastMovement() {
        loses(2, 7);
    }

    static void promise6_loss1() {
        loses(1, 1);
    }

    static void promise6_loss20() {
        loses(1, 20);
    }

    static void promise6_loss0() {
        VaultMovements x = new VaultMovements();
        x.loss(1, 20);
        Cases.due("loss(1, 0)", x.loss(1, 0), 20);
        Cases.due("movement(1, 2)", x.movement(1, 2), 0);
    }

    static void promise6_returnsThePreviousLossNotTheFirst() {
        VaultMovements x = new VaultMovements();
        x.loss(1, 20);
        Cases.due("loss(1, 1)", x.loss(1, 1), 20);
        Cases.due("loss(1, 3)", x.loss(1, 3), 1);
    }

    static void promise6_whileLockedOrStopped() {
        VaultMovements x = Clocks.busyLocked();
        Cases.due("loss(1, 20)", x.loss(1, 20), 0);
        Cases.due("movement(1, 2)", x.movement(1, 2), 20);
    }

    static void promise6_undoable() {
        Cases.undoable("loss(2, 20)", x -> x.loss(2, 20), VaultMovements::new);
        Cases.undoable("loss(2, 0)", x -> x.loss(2, 0), Clocks::busyLocked);
    }

    static void promise6_savesThoughNothingChanges() {
        Cases.undoable("loss(0, 0)", x -> x.loss(0, 0), VaultMovements::new);
    }

    static void promise6_nothingElseChanges() {
        Cases.changesOnly("loss(1, 20)", x -> x.loss(1, 20), Clocks::busyOpen, "movement(1, 2)", "movement(1, 5)", "rightWinding(1)");
        Cases.changesOnly("loss(1, 20)", x -> x.loss(1, 20), Clocks::busyLocked, "movement(1, 2)");
    }

    // ---- promise 7

    /** All three movements ran for 4 hours and have a loss of 20; the movement 1 is stopped; the door is open. */
    private static VaultMovements worn() {
        VaultMovements x = Clocks.lockedWith(4, 9, 9);
        x.pass(4);
        x.open();
        x.fault(1, false);
        for (int i = 0; i < 3; i++) {
            x.loss(i, 20);
        }
        return x;
    }

    static void promise7_movementMinus1IsRefused() {
        Cases.index("service(-1)", x -> x.service(-1));
    }

    static void promise7_movement3IsRefused() {
        Cases.index("service(3)", x -> x.service(3));
    }

    static void promise7_farMovementsAreRefused() {
        Cases.index("service(FAR)", x -> x.service(Clocks.FAR));
        Cases.index("service(FAR_BELOW)", x -> x.service(Clocks.FAR_BELOW));
    }

    static void promise7_theLockedDoorIsRefused() {
        Cases.state("service(0)", x -> x.service(0), Clocks::busyLocked);
        Cases.state("service(0)", x -> x.service(0), () -> Clocks.lockedWith(0, 9, 9));
    }

    static void promise7_theMovementIsRefusedAheadOfTheLockedDoor() {
        Cases.refused(IndexOutOfBoundsException.class, "service(3)", x -> x.service(3), () -> Clocks.lockedWith(9, 9, 9));
        Cases.refused(IndexOutOfBoundsException.class, "service(-1)", x -> x.service(-1), () -> Clocks.lockedWith(9, 9, 9));
    }

    private static void services(int movement, int hours) {
        VaultMovements x = worn();
        VaultMovements before = worn();
        Cases.due("service(" + movement + ")", x.service(movement), 4);
        int[] due = {hours, 1, 0, 0};
        for (int i = 0; i < 12; i++) {
            Cases.due("movement(" + i / 4 + ", " + i % 4 + ")", x.movement(i / 4, i % 4),
                i / 4 == movement ? due[i % 4] : before.movement(i / 4, i % 4));
        }
    }

    static void promise7_theFirstMovement() {
        services(0, 0);
    }

    static void promise7_theStoppedMovementGoes() {
        services(1, 5);
    }

    static void promise7_theLastMovement() {
        services(2, 5);
    }

    static void promise7_returns0IfItNeverRan() {
        Cases.due("service(1)", new VaultMovements().service(1), 0);
    }

    static void promise7_returns0IfItWasJustServiced() {
        VaultMovements x = worn();
        x.service(2);
        Cases.due("service(2)", x.service(2), 0);
    }

    static void promise7_returnsTheHoursSinceTheServiceBefore() {
        VaultMovements x = worn();
        x.service(2);
        x.lock();
        x.pass(3);
        x.open();
        Cases.due("service(2)", x.service(2), 3);
    }

    static void promise7_theHoursThatItRanAreTheLostOnesToo() {
        VaultMovements x = Clocks.lockedWith(9, 1, 9);
        x.loss(0, 1);
        x.pass(7);
        x.open();
        Cases.due("service(0)", x.service(0), 7);
    }

    static void promise7_undoable() {
        Cases.undoable("service(1)", x -> x.service(1), MovementsCasesTest::worn);
        Cases.undoable("service(2)", x -> x.service(2), Clocks::busyOpen);
    }

    static void promise7_savesThoughNothingChanges() {
        Cases.undoable("service(0)", x -> x.service(0), VaultMovements::new);
    }

    static void promise7_nothingElseChanges() {
        Cases.changesOnly("service(1)", x -> x.service(1), MovementsCasesTest::worn, "movement(1, 1)", "movement(1, 2)",
            "movement(1, 3)", "movement(1, 5)", "rightWinding(1)");
        Cases.changesOnly("service(2)", x -> x.service(2), Clocks::busyOpen, "movement(2, 1)", "movement(2, 2)",
            "movement(2, 3)", "movement(2, 4)", "rightWinding(2)");
    }
}
