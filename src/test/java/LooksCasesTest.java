/** The boundaries of the promises 17 to 20: movement, day, count, setting. */
public final class LooksCasesTest {
    private static final int NONE = VaultMovements.NONE;

    public static void main(String[] args) {
        Cases.runAll(LooksCasesTest.class);
    }

    // ---- promise 17

    static void promise17_movementMinus1IsRefused() {
        Cases.index("movement(-1, 0)", x -> x.movement(-1, 0));
    }

    static void promise17_movement3IsRefused() {
        Cases.index("movement(3, 5)", x -> x.movement(3, 5));
    }

    static void promise17_farMovementsAreRefused() {
        Cases.index("movement(FAR, 0)", x -> x.movement(Clocks.FAR, 0));
        Cases.index("movement(FAR_BELOW, 0)", x -> x.movement(Clocks.FAR_BELOW, 0));
    }

    static void promise17_propertyMinus1IsRefused() {
        Cases.argument("movement(0, -1)", x -> x.movement(0, -1));
        Cases.argument("movement(2, -1)", x -> x.movement(2, -1));
    }

    static void promise17_property6IsRefused() {
        Cases.argument("movement(0, 6)", x -> x.movement(0, 6));
        Cases.argument("movement(2, 6)", x -> x.movement(2, 6));
    }

    static void promise17_farPropertiesAreRefused() {
        Cases.argument("movement(0, FAR)", x -> x.movement(0, Clocks.FAR));
        Cases.argument("movement(0, FAR_BELOW)", x -> x.movement(0, Clocks.FAR_BELOW));
    }

    static void promise17_theMovementIsRefusedAheadOfTheProperty() {
        Cases.index("movement(3, 6)", x -> x.movement(3, 6));
        Cases.index("movement(-1, -1)", x -> x.movement(-1, -1));
    }

    /** The movement i has 10 i + 9 hours to run, a loss of 10 i + 10 less 10, and ran 5 hours, but for the stopped 1. */
    private static VaultMovements mixed() {
        VaultMovements x = new VaultMovements();
        Clocks.wind(x, 14, 19, 34);
        x.loss(1, 10);
        x.loss(2, 20);
        x.fault(1, false);
        x.set(2, 10);
        x.lock();
        x.pass(5);
        return x;
    }

    private static void properties(int movement, int... due) {
        VaultMovements x = mixed();
        for (int what = 0; what <= 5; what++) {
            Cases.due("movement(" + movement + ", " + what + ")", x.movement(movement, what), due[what]);
        }
    }

    static void promise17_theFirstMovement() {
        properties(0, 9, 1, 0, 5, 0, 9);
    }

    static void promise17_theStoppedMovement() {
        properties(1, 19, 0, 10, 0, 0, NONE);
    }

    static void promise17_theLastMovement() {
        properties(2, 29, 1, 20, 5, 0, 30);
    }

    /** The movement 0 ran for so many hours; setting 2 is this. */
    private static VaultMovements ran(int hours, int setting2) {
        VaultMovements x = new VaultMovements();
        x.wind(0, 200);
        x.loss(0, 1);
        x.set(2, setting2);
        x.lock();
        Clocks.pass(x, hours);
        return x;
    }

    static void promise17_property4IsZeroAnHourBelowSetting2() {
        Cases.due("movement(0, 4)", ran(9, 10).movement(0, 4), 0);
        Cases.due("movement(0, 4)", ran(499, 500).movement(0, 4), 0);
        Cases.due("movement(0, 4)", ran(4999, 5000).movement(0, 4), 0);
    }

    static void promise17_property4IsOneAtSetting2() {
        Cases.due("movement(0, 4)", ran(10, 10).movement(0, 4), 1);
        Cases.due("movement(0, 4)", ran(500, 500).movement(0, 4), 1);
        Cases.due("movement(0, 4)", ran(5000, 5000).movement(0, 4), 1);
    }

    static void promise17_property4IsOneAboveSetting2() {
        Cases.due("movement(0, 4)", ran(11, 10).movement(0, 4), 1);
    }

    static void promise17_property4FollowsSetting2() {
        VaultMovements x = ran(20, 20);
        x.set(2, 21);
        Cases.due("movement(0, 4)", x.movement(0, 4), 0);
        x.set(2, 10);
        Cases.due("movement(0, 4)", x.movement(0, 4), 1);
    }

    /** Property 5 of the movement 0, wound to these hours, which has a loss and ran for so many hours. */
    private static void runsDownIn(int hours, int loss, int ran, int due) {
        VaultMovements x = new VaultMovements();
        x.wind(0, 200);
        x.wind(1, 200);
        if (ran > 0) {
            x.lock();
            x.pass(ran);
            x.open();
        }
        x.loss(0, loss);
        x.wind(0, hours);
        Cases.due("movement(0, 5) while open", x.movement(0, 5), due);
        x.lock();
        Cases.due("movement(0, 5) while locked", x.movement(0, 5), due);
        if (due > 1) {
            Clocks.pass(x, due - 1);
            Cases.due("movement(0, 0) an hour ahead", x.movement(0, 0), 1);
            Cases.due("movement(0, 5) an hour ahead", x.movement(0, 5), 1);
        }
        if (due != NONE) {
            x.pass(1);
            Cases.due("movement(0, 0)", x.movement(0, 0), 0);
            Cases.due("movement(0, 5)", x.movement(0, 5), 0);
        }
    }

    static void promise17_property5OfOneHour() {
        runsDownIn(1, 0, 0, 1);
    }

    static void promise17_property5Of200Hours() {
        runsDownIn(200, 0, 0, 200);
    }

    static void promise17_property5IfTheNextHourIsLost() {
        runsDownIn(1, 2, 1, 2);
        runsDownIn(1, 20, 19, 2);
    }

    static void promise17_property5IfTheHourBehindTheLastWouldBeLost() {
        runsDownIn(1, 2, 0, 1);
        runsDownIn(19, 20, 0, 19);
    }

    static void promise17_property5IfTheLastHourWouldBeLost() {
        runsDownIn(2, 2, 0, 3);
        runsDownIn(20, 20, 0, 21);
    }

    static void promise17_property5OfTheMostHours() {
        runsDownIn(200, 2, 0, 399);
        runsDownIn(200, 2, 1, 400);
    }

    static void promise17_property5IsNoneIfEachHourIsLost() {
        runsDownIn(1, 1, 0, NONE);
        runsDownIn(200, 1, 7, NONE);
    }

    static void promise17_property5IsNoneIfItIsStopped() {
        VaultMovements x = new VaultMovements();
        x.wind(0, 1);
        x.fault(0, false);
        Cases.due("movement(0, 5)", x.movement(0, 5), NONE);
    }

    static void promise17_property5Is0IfItWasNotWound() {
        Cases.due("movement(2, 5)", new VaultMovements().movement(2, 5), 0);
    }

    static void promise17_property5Is0ThoughItIsStoppedOrLosesEachHour() {
        VaultMovements x = new VaultMovements();
        x.fault(0, false);
        x.loss(1, 1);
        Cases.due("movement(0, 5)", x.movement(0, 5), 0);
        Cases.due("movement(1, 5)", x.movement(1, 5), 0);
    }

    static void promise17_property5GoesOnBeyondTheLastHour() {
        VaultMovements x = Clocks.at(Clocks.LAST_HOUR);
        x.wind(0, 200);
        Cases.due("movement(0, 5)", x.movement(0, 5), 200);
    }

    static void promise17_nothingIsChanged() {
        Cases.notUndoable("movement(0, 5)", x -> x.movement(0, 5), Clocks::busyOpen);
        Cases.notUndoable("movement(0, 4)", x -> x.movement(0, 4), Clocks::busyLocked);
    }

    // ---- promise 18

    static void promise18_dayMinus1IsRefused() {
        Cases.index("day(-1)", x -> x.day(-1));
    }

    static void promise18_day7IsRefused() {
        Cases.index("day(7)", x -> x.day(7));
    }

    static void promise18_farDaysAreRefused() {
        Cases.index("day(FAR)", x -> x.day(Clocks.FAR));
        Cases.index("day(FAR_BELOW)", x -> x.day(Clocks.FAR_BELOW));
    }

    private static final int[] TIMES = {0, 1, NONE, 12, 22, NONE, 23};

    private static void day(int day) {
        VaultMovements x = new VaultMovements();
        Clocks.setOpenings(x, TIMES);
        Cases.due("day(" + day + ")", x.day(day), TIMES[day]);
    }

    static void promise18_theFirstDayWithTime0() {
        day(0);
    }

    static void promise18_theLastDayWithTime23() {
        day(6);
    }

    static void promise18_aDayWithoutATime() {
        day(2);
        day(5);
    }

    static void promise18_nothingIsChanged() {
        Cases.notUndoable("day(6)", x -> x.day(6), Clocks::busyOpen);
    }

    // ---- promise 19

    static void promise19_countMinus1IsRefused() {
        Cases.argument("count(-1)", x -> x.count(-1));
    }

    static void promise19_count15IsRefused() {
        Cases.argument("count(15)", x -> x.count(15));
    }

    static void promise19_farCountsAreRefused() {
        Cases.argument("count(FAR)", x -> x.count(Clocks.FAR));
        Cases.argument("count(FAR_BELOW)", x -> x.count(Clocks.FAR_BELOW));
    }

    static void promise19_count0IsTheHour() {
        Cases.due("count(0)", Clocks.at(168).count(0), 168);
    }

    static void promise19_count1IsTheDay() {
        Cases.due("count(1)", Clocks.at(167).count(1), 6);
        Cases.due("count(1)", Clocks.at(168).count(1), 0);
    }

    static void promise19_count2IsTheTimeOfDay() {
        Cases.due("count(2)", Clocks.at(47).count(2), 23);
        Cases.due("count(2)", Clocks.at(48).count(2), 0);
    }

    static void promise19_count3IsWhetherTheDoorIsLocked() {
        VaultMovements x = new VaultMovements();
        Cases.due("count(3)", x.count(3), 0);
        x.wind(0, 1);
        Cases.due("count(3)", x.count(3), 0);
        x.lock();
        Cases.due("count(3)", x.count(3), 1);
        x.pass(1);
        Cases.due("count(3)", x.count(3), 1);
        x.open();
        Cases.due("count(3)", x.count(3), 0);
    }

    static void promise19_count4IsNoneWithoutAnOpening() {
        VaultMovements x = new VaultMovements();
        Clocks.shutAlways(x);
        Cases.due("count(4)", x.count(4), NONE);
    }

    static void promise19_count4GoesOnBeyondTheLastHour() {
        Cases.due("count(4)", Clocks.at(Clocks.LAST_HOUR).count(4), 17);
    }

    static void promise19_count4WhileLockedIsTheNextNotTheDueOne() {
        VaultMovements x = Clocks.lockedWith(99, 99, 99);
        x.pass(8);
        Cases.due("count(4)", x.count(4), 24);
        Cases.due("count(5)", x.count(5), 8);
    }

    static void promise19_count5IsNoneWhileOpen() {
        VaultMovements x = Clocks.lockedWithOne(0, 0);
        Cases.due("count(5)", x.count(5), 8);
        x.open();
        Cases.due("count(5)", x.count(5), NONE);
    }

    static void promise19_count5IsNoneWhenDrilled() {
        VaultMovements x = Clocks.lockedWith(9, 9, 9);
        x.drill();
        Cases.due("count(5)", x.count(5), NONE);
    }

    static void promise19_count5IsNoneWithoutADueOpening() {
        VaultMovements x = new VaultMovements();
        Clocks.shutAlways(x);
        x.wind(0, 9);
        x.lock();
        Cases.due("count(5)", x.count(5), NONE);
    }

    static void promise19_count6Is0WhileOpen() {
        VaultMovements x = Clocks.lockedWithOne(0, 1);
        Clocks.tryTimes(x, 2);
        Cases.due("count(6)", x.count(6), 2);
        x.pass(1);
        x.open();
        Cases.due("count(6)", x.count(6), 0);
        Cases.due("count(8)", x.count(8), 2);
    }

    static void promise19_count6Is0WhenDrilled() {
        VaultMovements x = Clocks.lockedWith(9, 9, 9);
        Clocks.tryTimes(x, 2);
        x.drill();
        Cases.due("count(6)", x.count(6), 0);
    }

    static void promise19_count6CountsAnewWhenItBeginsToWait() {
        VaultMovements x = Clocks.lockedWith(9, 9, 9);
        int[] due = {1, 2, 0, 1, 2, 0};
        for (int i = 0; i < 6; i++) {
            x.open();
            Cases.due("count(6) behind try " + (i + 1), x.count(6), due[i]);
        }
    }

    static void promise19_count6StaysWhenTheWaitingEnds() {
        VaultMovements x = Clocks.lockedWith(99, 99, 99);
        Clocks.tryTimes(x, 4);
        x.pass(3);
        Cases.due("count(6)", x.count(6), 1);
    }

    static void promise19_count7CountsDownTo0() {
        VaultMovements x = Clocks.lockedWithTries(1, 3);
        Cases.due("count(7)", x.count(7), 0);
        x.open();
        for (int left = 3; left >= 1; left--) {
            Cases.due("count(7)", x.count(7), left);
            x.pass(1);
        }
        Cases.due("count(7)", x.count(7), 0);
        x.pass(1);
        Cases.due("count(7)", x.count(7), 0);
    }

    static void promise19_count8CountsAllEarlyTries() {
        VaultMovements x = Clocks.lockedWithOne(0, 1);
        Clocks.tryTimes(x, 4);
        x.pass(2);
        x.open();
        Cases.due("count(8)", x.count(8), 4);
        x.wind(0, 9);
        x.lock();
        x.open();
        Cases.due("count(8)", x.count(8), 5);
    }

    private static void opened(int hours, int what) {
        VaultMovements x = Clocks.lockedWithOne(0, 1);
        x.pass(hours);
        x.open();
        for (int i = 10; i <= 13; i++) {
            Cases.due("count(" + i + ")", x.count(i), i == what ? 1 : 0);
        }
        Cases.due("count(9)", x.count(9), 1);
        x.lock();
        x.open();
        Cases.due("count(9)", x.count(9), 2);
    }

    static void promise19_count10IsOnTime() {
        opened(8, 10);
    }

    static void promise19_count11IsLate() {
        opened(9, 11);
    }

    static void promise19_count12IsEarly() {
        opened(7, 12);
    }

    static void promise19_count13IsDrilledNotOpened() {
        VaultMovements x = Clocks.lockedWith(9, 9, 9);
        x.drill();
        int[] due = {0, 0, 0, 0, 1};
        for (int i = 9; i <= 13; i++) {
            Cases.due("count(" + i + ")", x.count(i), due[i - 9]);
        }
    }

    static void promise19_count14IsAtMost6() {
        VaultMovements x = new VaultMovements();
        for (int i = 0; i <= 8; i++) {
            Cases.due("count(14)", x.count(14), Math.min(i, 6));
            x.pass(1);
        }
    }

    static void promise19_nothingIsChanged() {
        for (int i = 0; i <= 14; i++) {
            int what = i;
            Cases.notUndoable("count(" + i + ")", x -> x.count(what), Clocks::busyLocked);
        }
    }

    // ---- promise 20

    static void promise20_settingMinus1IsRefused() {
        Cases.index("setting(-1)", x -> x.setting(-1));
    }

    static void promise20_setting3IsRefused() {
        Cases.index("setting(3)", x -> x.setting(3));
    }

    static void promise20_farSettingsAreRefused() {
        Cases.index("setting(FAR)", x -> x.setting(Clocks.FAR));
        Cases.index("setting(FAR_BELOW)", x -> x.setting(Clocks.FAR_BELOW));
    }

    private static void setting(int setting, int value) {
        VaultMovements x = new VaultMovements();
        x.set(setting, value);
        Cases.due("setting(" + setting + ")", x.setting(setting), value);
    }

    static void promise20_theFirstSetting() {
        setting(0, 1);
        setting(0, 9);
    }

    static void promise20_theMiddleSetting() {
        setting(1, 1);
        setting(1, 24);
    }

    static void promise20_theLastSetting() {
        setting(2, 10);
        setting(2, 5000);
    }

    static void promise20_nothingIsChanged() {
        Cases.notUndoable("setting(2)", x -> x.setting(2), Clocks::busyLocked);
    }
}
