/** The boundaries of the promises 1 to 3: a new object, opening, set. */
public final class WeekCasesTest {
    private static final int NONE = VaultMovements.NONE;

    public static void main(String[] args) {
        Cases.runAll(WeekCasesTest.class);
    }

    // ---- promise 1

    static void promise1_noneIsMinus1() {
        Cases.due("NONE", VaultMovements.NONE, -1);
    }

    static void promise1_theDoorIsOpen() {
        Cases.due("count(3)", new VaultMovements().count(3), 0);
    }

    static void promise1_theHourIs0() {
        Cases.due("count(0)", new VaultMovements().count(0), 0);
    }

    static void promise1_theBufferIsEmpty() {
        Cases.due("clearBuffer()", new VaultMovements().clearBuffer(), 0);
    }

    static void promise1_nothingIsSaved() {
        Cases.due("count(14)", new VaultMovements().count(14), 0);
    }

    static void promise1_eachCount() {
        int[] due = {0, 0, 0, 0, 8, NONE, 0, 0, 0, 0, 0, 0, 0, 0, 0};
        VaultMovements x = new VaultMovements();
        for (int what = 0; what <= 14; what++) {
            Cases.due("count(" + what + ")", x.count(what), due[what]);
        }
    }

    static void promise1_eachDay() {
        int[] due = {8, 8, 8, 8, 8, NONE, NONE};
        VaultMovements x = new VaultMovements();
        for (int day = 0; day <= 6; day++) {
            Cases.due("day(" + day + ")", x.day(day), due[day]);
        }
    }

    static void promise1_eachMovementIsUnwoundAndGoes() {
        int[] due = {0, 1, 0, 0, 0, 0};
        VaultMovements x = new VaultMovements();
        for (int i = 0; i < 18; i++) {
            Cases.due("movement(" + i / 6 + ", " + i % 6 + ")", x.movement(i / 6, i % 6), due[i % 6]);
        }
    }

    static void promise1_whatWouldBe() {
        VaultMovements x = new VaultMovements();
        Cases.due("opensIn()", x.opensIn(), NONE);
        Cases.due("lateness()", x.lateness(), 0);
        Cases.due("keyMovement()", x.keyMovement(), NONE);
        Cases.dueShare("punctuality()", x.punctuality(), 1.0);
    }

    static void promise1_clocksShareNothing() {
        VaultMovements other = Clocks.busyLocked();
        Cases.same("of a second clock", new VaultMovements(), new VaultMovements(), 6);
        Cases.due("digest()", new VaultMovements().digest() == other.digest() ? 1 : 0, 0);
        Cases.due("count(14)", new VaultMovements().count(14), 0);
    }

    // ---- promise 2

    static void promise2_dayMinus1IsRefused() {
        Cases.index("opening(-1, 8)", x -> x.opening(-1, 8));
    }

    static void promise2_day7IsRefused() {
        Cases.index("opening(7, 8)", x -> x.opening(7, 8));
    }

    static void promise2_farDaysAreRefused() {
        Cases.index("opening(FAR, 8)", x -> x.opening(Clocks.FAR, 8));
        Cases.index("opening(FAR_BELOW, 8)", x -> x.opening(Clocks.FAR_BELOW, 8));
    }

    static void promise2_timeMinus2IsRefused() {
        Cases.argument("opening(0, -2)", x -> x.opening(0, -2));
    }

    static void promise2_time24IsRefused() {
        Cases.argument("opening(6, 24)", x -> x.opening(6, 24));
    }

    static void promise2_farTimesAreRefused() {
        Cases.argument("opening(0, FAR)", x -> x.opening(0, Clocks.FAR));
        Cases.argument("opening(0, FAR_BELOW)", x -> x.opening(0, Clocks.FAR_BELOW));
    }

    static void promise2_theDayIsRefusedAheadOfTheTime() {
        Cases.index("opening(7, 24)", x -> x.opening(7, 24));
        Cases.index("opening(-1, -2)", x -> x.opening(-1, -2));
    }

    /** The opening time of one day changes, those of the others stay. */
    private static void changes(int day, int time) {
        VaultMovements x = new VaultMovements();
        int before = x.day(day);
        Cases.due("opening(" + day + ", " + time + ")", x.opening(day, time), before);
        for (int i = 0; i <= 6; i++) {
            Cases.due("day(" + i + ")", x.day(i), i == day ? time : i < 5 ? 8 : NONE);
        }
    }

    static void promise2_theFirstDay() {
        changes(0, 9);
    }

    static void promise2_theLastDay() {
        changes(6, 9);
    }

    static void promise2_time0() {
        changes(1, 0);
    }

    static void promise2_time23() {
        changes(5, 23);
    }

    static void promise2_timeNone() {
        changes(4, NONE);
    }

    static void promise2_returnsNoneWithoutAPreviousOne() {
        VaultMovements x = new VaultMovements();
        Cases.due("opening(6, 0)", x.opening(6, 0), NONE);
    }

    static void promise2_returnsAPreviousTime0() {
        VaultMovements x = new VaultMovements();
        x.opening(0, 0);
        Cases.due("opening(0, 23)", x.opening(0, 23), 0);
        Cases.due("opening(0, NONE)", x.opening(0, NONE), 23);
        Cases.due("opening(0, 5)", x.opening(0, 5), NONE);
    }

    static void promise2_aDueOpeningStaysAlready() {
        VaultMovements x = Clocks.lockedWith(9, 9, 9);
        x.opening(0, 20);
        Cases.due("count(5)", x.count(5), 8);
        x.opening(0, NONE);
        Cases.due("count(5)", x.count(5), 8);
        Cases.due("count(4)", x.count(4), 32);
    }

    static void promise2_noDueOpeningStaysAlready() {
        VaultMovements x = new VaultMovements();
        Clocks.shutAlways(x);
        x.wind(0, 9);
        x.lock();
        x.opening(0, 5);
        Cases.due("count(5)", x.count(5), NONE);
    }

    static void promise2_undoable() {
        Cases.undoable("opening(6, 0)", x -> x.opening(6, 0), VaultMovements::new);
        Cases.undoable("opening(6, 0)", x -> x.opening(6, 0), Clocks::busyLocked);
    }

    static void promise2_savesThoughNothingChanges() {
        Cases.undoable("opening(0, 8)", x -> x.opening(0, 8), VaultMovements::new);
    }

    static void promise2_nothingElseChanges() {
        Cases.changesOnly("opening(6, 0)", x -> x.opening(6, 0), Clocks::busyLocked, "day(6)", "count(4)", "rightWinding");
        Cases.changesOnly("opening(0, NONE)", x -> x.opening(0, NONE), Clocks::busyOpen, "day(0)", "count(4)", "rightWinding");
    }

    // ---- promise 3

    private static void sets(int setting, int value) {
        int[] atFirst = {3, 2, 500};
        VaultMovements x = new VaultMovements();
        Cases.due("set(" + setting + ", " + value + ")", x.set(setting, value), atFirst[setting]);
        for (int i = 0; i <= 2; i++) {
            Cases.due("setting(" + i + ")", x.setting(i), i == setting ? value : atFirst[i]);
        }
    }

    static void promise3_settingMinus1IsRefused() {
        Cases.index("set(-1, 5)", x -> x.set(-1, 5));
    }

    static void promise3_setting3IsRefused() {
        Cases.index("set(3, 10)", x -> x.set(3, 10));
    }

    static void promise3_farSettingsAreRefused() {
        Cases.index("set(FAR, 5)", x -> x.set(Clocks.FAR, 5));
        Cases.index("set(FAR_BELOW, 5)", x -> x.set(Clocks.FAR_BELOW, 5));
    }

    static void promise3_theSettingIsRefusedAheadOfTheValue() {
        Cases.index("set(3, 0)", x -> x.set(3, 0));
        Cases.index("set(-1, 5001)", x -> x.set(-1, 5001));
    }

    static void promise3_setting0Value0IsRefused() {
        Cases.argument("set(0, 0)", x -> x.set(0, 0));
    }

    static void promise3_setting0Value1() {
        sets(0, 1);
    }

    static void promise3_setting0Value9() {
        sets(0, 9);
    }

    static void promise3_setting0Value10IsRefused() {
        Cases.argument("set(0, 10)", x -> x.set(0, 10));
    }

    static void promise3_setting1Value0IsRefused() {
        Cases.argument("set(1, 0)", x -> x.set(1, 0));
    }

    static void promise3_setting1Value1() {
        sets(1, 1);
    }

    static void promise3_setting1Value24() {
        sets(1, 24);
    }

    static void promise3_setting1Value25IsRefused() {
        Cases.argument("set(1, 25)", x -> x.set(1, 25));
    }

    static void promise3_setting2Value9IsRefused() {
        Cases.argument("set(2, 9)", x -> x.set(2, 9));
    }

    static void promise3_setting2Value10() {
        sets(2, 10);
    }

    static void promise3_setting2Value5000() {
        sets(2, 5000);
    }

    static void promise3_setting2Value5001IsRefused() {
        Cases.argument("set(2, 5001)", x -> x.set(2, 5001));
    }

    static void promise3_farValuesAreRefused() {
        for (int i = 0; i <= 2; i++) {
            int setting = i;
            Cases.argument("set(" + i + ", FAR)", x -> x.set(setting, Clocks.FAR));
            Cases.argument("set(" + i + ", FAR_BELOW)", x -> x.set(setting, Clocks.FAR_BELOW));
            Cases.argument("set(" + i + ", -1)", x -> x.set(setting, -1));
        }
    }

    static void promise3_returnsThePreviousValueNotTheFirst() {
        VaultMovements x = new VaultMovements();
        x.set(0, 9);
        Cases.due("set(0, 1)", x.set(0, 1), 9);
        Cases.due("set(0, 1)", x.set(0, 1), 1);
    }

    static void promise3_whileLocked() {
        VaultMovements x = Clocks.busyLocked();
        Cases.due("set(1, 24)", x.set(1, 24), 9);
        Cases.due("setting(1)", x.setting(1), 24);
    }

    static void promise3_undoable() {
        Cases.undoable("set(0, 9)", x -> x.set(0, 9), VaultMovements::new);
        Cases.undoable("set(2, 5000)", x -> x.set(2, 5000), Clocks::busyLocked);
    }

    static void promise3_savesThoughNothingChanges() {
        Cases.undoable("set(0, 3)", x -> x.set(0, 3), VaultMovements::new);
    }

    static void promise3_nothingElseChanges() {
        Cases.changesOnly("set(0, 9)", x -> x.set(0, 9), Clocks::busyLocked, "setting(0)");
        Cases.changesOnly("set(0, 1)", x -> x.set(0, 1), Clocks::busyLocked, "setting(0)");
        Cases.changesOnly("set(1, 24)", x -> x.set(1, 24), Clocks::busyLocked, "setting(1)");
        Cases.changesOnly("set(2, 5000)", x -> x.set(2, 5000), Clocks::busyOpen, "setting(2)");
    }
}
