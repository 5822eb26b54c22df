/** The boundaries that the document names in "What it is", in "Terms" and in "Settings". */
public final class TermsCasesTest {
    private static final int NONE = VaultMovements.NONE;

    public static void main(String[] args) {
        Cases.runAll(TermsCasesTest.class);
    }

    // ---- what it is: 512 calls

    static void terms_theCall512StillAnswers() {
        VaultMovements x = new VaultMovements();
        for (int call = 1; call <= 510; call++) {
            x.fault(0, call % 2 == 0);
        }
        Cases.due("call 511", x.wind(0, 200), 0);
        Cases.due("call 512", x.movement(0, 0), 200);
    }

    // ---- week, hours

    private static void dayAndTime(VaultMovements x, int day, int time) {
        Cases.due("count(1)", x.count(1), day);
        Cases.due("count(2)", x.count(2), time);
    }

    static void terms_hour0IsDay0Time0() {
        VaultMovements x = new VaultMovements();
        Cases.due("count(0)", x.count(0), 0);
        dayAndTime(x, 0, 0);
    }

    static void terms_hour23IsTheLastOfDay0() {
        dayAndTime(Clocks.at(23), 0, 23);
    }

    static void terms_hour24IsTheFirstOfDay1() {
        dayAndTime(Clocks.at(24), 1, 0);
    }

    static void terms_hour144IsTheFirstOfDay6() {
        dayAndTime(Clocks.at(144), 6, 0);
    }

    static void terms_hour167IsTheLastOfDay6() {
        dayAndTime(Clocks.at(167), 6, 23);
    }

    static void terms_hour168IsDay0Again() {
        dayAndTime(Clocks.at(168), 0, 0);
    }

    static void terms_hour335EndsTheSecondWeek() {
        dayAndTime(Clocks.at(335), 6, 23);
    }

    static void terms_hour336BeginsTheThirdWeek() {
        dayAndTime(Clocks.at(336), 0, 0);
    }

    static void terms_theLastHourIsDay1Time15() {
        dayAndTime(Clocks.at(Clocks.LAST_HOUR), 1, 15);
    }

    static void terms_openingAtFirst8OnTheFirstDay() {
        Cases.due("day(0)", new VaultMovements().day(0), 8);
    }

    static void terms_openingAtFirst8OnDay4() {
        Cases.due("day(4)", new VaultMovements().day(4), 8);
    }

    static void terms_openingAtFirstNoneOnDay5() {
        Cases.due("day(5)", new VaultMovements().day(5), NONE);
    }

    static void terms_openingAtFirstNoneOnTheLastDay() {
        Cases.due("day(6)", new VaultMovements().day(6), NONE);
    }

    private static void nextOpening(VaultMovements x, int hours) {
        Cases.due("count(4) in the hour " + x.count(0), x.count(4), hours);
    }

    static void terms_nextOpeningAnHourBefore() {
        nextOpening(Clocks.at(7), 1);
    }

    static void terms_nextOpeningIsLaterThanNow() {
        nextOpening(Clocks.at(8), 24);
    }

    static void terms_nextOpeningAnHourAfter() {
        nextOpening(Clocks.at(9), 23);
    }

    static void terms_nextOpeningAtTheFirstTimeOfADay() {
        VaultMovements x = Clocks.at(23);
        x.opening(1, 0);
        nextOpening(x, 1);
        x.pass(1);
        nextOpening(x, 32);
    }

    static void terms_nextOpeningAtTheLastTimeOfADay() {
        VaultMovements x = Clocks.at(22);
        x.opening(0, 23);
        nextOpening(x, 1);
        x.pass(1);
        nextOpening(x, 9);
    }

    static void terms_nextOpeningPassesDaysWithoutOne() {
        VaultMovements x = Clocks.at(103);
        nextOpening(x, 1);
        x.pass(1);
        nextOpening(x, 72);
    }

    static void terms_nextOpeningWrapsFromTheLastHourOfTheWeek() {
        VaultMovements x = Clocks.at(167);
        nextOpening(x, 9);
        x.opening(0, 0);
        nextOpening(x, 1);
    }

    static void terms_nextOpeningOnTheLastDay() {
        VaultMovements x = Clocks.at(144);
        x.opening(6, 23);
        nextOpening(x, 23);
        x.opening(6, 0);
        nextOpening(x, 32);
    }

    static void terms_nextOpeningAWholeWeekAhead() {
        VaultMovements x = Clocks.at(8);
        Clocks.setOnlyOpening(x, 0, 8);
        nextOpening(x, 168);
    }

    static void terms_nextOpeningAWeekAheadLessAnHour() {
        VaultMovements x = Clocks.at(8);
        Clocks.setOnlyOpening(x, 0, 7);
        nextOpening(x, 167);
    }

    static void terms_nextOpeningOnlyTodayInAnHour() {
        VaultMovements x = Clocks.at(8);
        Clocks.setOnlyOpening(x, 0, 9);
        nextOpening(x, 1);
    }

    static void terms_nextOpeningOnEachDayAlone() {
        for (int day = 0; day < 7; day++) {
            VaultMovements x = new VaultMovements();
            Clocks.setOnlyOpening(x, day, 0);
            nextOpening(x, day == 0 ? 168 : day * 24);
        }
    }

    static void terms_nextOpeningNone() {
        VaultMovements x = new VaultMovements();
        Clocks.shutAlways(x);
        nextOpening(x, NONE);
    }

    // ---- movements

    static void terms_lockingChangesNothingAtTheMovements() {
        VaultMovements x = new VaultMovements();
        Clocks.wind(x, 1, 200, 0);
        x.loss(1, 20);
        x.fault(2, false);
        x.lock();
        int[][] due = {{1, 1, 0, 0}, {200, 1, 20, 0}, {0, 0, 0, 0}};
        for (int i = 0; i < 12; i++) {
            Cases.due("movement(" + i / 4 + ", " + i % 4 + ")", x.movement(i / 4, i % 4), due[i / 4][i % 4]);
        }
    }

    static void terms_eachMovementRunsWhileLocked() {
        VaultMovements x = Clocks.lockedWith(10, 20, 30);
        x.pass(1);
        for (int i = 0; i < 3; i++) {
            Cases.due("movement(" + i + ", 0)", x.movement(i, 0), 10 * i + 9);
            Cases.due("movement(" + i + ", 3)", x.movement(i, 3), 1);
        }
    }

    static void terms_movementsStandStillWhileOpen() {
        VaultMovements x = new VaultMovements();
        Clocks.wind(x, 10, 20, 30);
        x.pass(24);
        for (int i = 0; i < 3; i++) {
            Cases.due("movement(" + i + ", 0)", x.movement(i, 0), 10 * i + 10);
            Cases.due("movement(" + i + ", 3)", x.movement(i, 3), 0);
        }
    }

    static void terms_movementsStandStillWhenOpenedAgain() {
        VaultMovements x = Clocks.lockedWith(1, 20, 30);
        x.pass(1);
        x.open();
        x.pass(5);
        Cases.due("movement(1, 0)", x.movement(1, 0), 19);
        Cases.due("movement(1, 3)", x.movement(1, 3), 1);
    }

    static void terms_aMovementWith1HourRunsDown() {
        VaultMovements x = Clocks.lockedWith(1, 20, 20);
        x.pass(1);
        Cases.due("movement(0, 0)", x.movement(0, 0), 0);
        Cases.due("movement(0, 3)", x.movement(0, 3), 1);
    }

    static void terms_aMovementWith0HoursRunsNoMore() {
        VaultMovements x = Clocks.lockedWith(1, 20, 20);
        x.pass(2);
        Cases.due("movement(0, 0)", x.movement(0, 0), 0);
        Cases.due("movement(0, 3)", x.movement(0, 3), 1);
    }

    static void terms_aMovementThatWasNotWoundDoesNotRun() {
        VaultMovements x = Clocks.lockedWith(0, 20, 20);
        x.pass(1);
        Cases.due("movement(0, 0)", x.movement(0, 0), 0);
        Cases.due("movement(0, 3)", x.movement(0, 3), 0);
    }

    static void terms_aStoppedMovementDoesNotRun() {
        VaultMovements x = Clocks.lockedWith(9, 20, 20);
        x.fault(0, false);
        x.pass(1);
        Cases.due("movement(0, 0)", x.movement(0, 0), 9);
        Cases.due("movement(0, 3)", x.movement(0, 3), 0);
    }

    static void terms_aMovementWith200HoursRunsDownInTheHour200() {
        VaultMovements x = Clocks.lockedWith(200, 0, 0);
        x.pass(199);
        Cases.due("movement(0, 0)", x.movement(0, 0), 1);
        x.pass(1);
        Cases.due("movement(0, 0)", x.movement(0, 0), 0);
        Cases.due("movement(0, 3)", x.movement(0, 3), 200);
    }

    // ---- loss

    private static VaultMovements lockedWithLoss(int loss) {
        VaultMovements x = Clocks.lockedWith(150, 150, 150);
        x.loss(0, loss);
        return x;
    }

    private static void toRunBehind(VaultMovements x, int hours, int toRun) {
        x.pass(hours);
        Cases.due("movement(0, 0) in the hour " + x.count(0), x.movement(0, 0), toRun);
        Cases.due("movement(0, 3)", x.movement(0, 3), x.count(0));
    }

    static void terms_loss0LosesNoHour() {
        toRunBehind(lockedWithLoss(0), 40, 110);
    }

    static void terms_loss1LosesEachHour() {
        VaultMovements x = lockedWithLoss(1);
        toRunBehind(x, 1, 150);
        toRunBehind(x, 39, 150);
    }

    static void terms_loss2LosesEverySecondHour() {
        VaultMovements x = lockedWithLoss(2);
        toRunBehind(x, 1, 149);
        toRunBehind(x, 1, 149);
        toRunBehind(x, 1, 148);
        toRunBehind(x, 1, 148);
    }

    static void terms_loss20LosesTheHour20And40() {
        VaultMovements x = lockedWithLoss(20);
        toRunBehind(x, 19, 131);
        toRunBehind(x, 1, 131);
        toRunBehind(x, 1, 130);
        toRunBehind(x, 18, 112);
        toRunBehind(x, 1, 112);
        toRunBehind(x, 1, 111);
    }

    static void terms_theLastHourIsLostToo() {
        VaultMovements x = Clocks.lockedWithOne(0, 3);
        x.loss(0, 3);
        toRunBehind(x, 2, 1);
        toRunBehind(x, 1, 1);
        toRunBehind(x, 1, 0);
    }

    static void terms_aLossSetLaterDividesTheHoursSinceTheService() {
        VaultMovements x = Clocks.lockedWith(150, 150, 150);
        toRunBehind(x, 5, 145);
        x.loss(0, 6);
        toRunBehind(x, 1, 145);
        toRunBehind(x, 5, 140);
        toRunBehind(x, 1, 140);
    }

    static void terms_theHoursOfALossBeginAnewWithAService() {
        VaultMovements x = Clocks.lockedWith(9, 2, 9);
        x.pass(2);
        x.open();
        x.service(0);
        x.loss(0, 3);
        x.lock();
        x.pass(1);
        Cases.due("movement(0, 0), hour 1", x.movement(0, 0), 6);
        x.pass(2);
        Cases.due("movement(0, 0), hour 3", x.movement(0, 0), 5);
    }

    static void terms_theHoursOfALossGoOnWhenWoundAgain() {
        VaultMovements x = Clocks.lockedWith(2, 9, 9);
        x.loss(0, 3);
        x.pass(2);
        x.open();
        x.wind(0, 9);
        x.wind(1, 200);
        x.lock();
        x.pass(1);
        Cases.due("movement(0, 0)", x.movement(0, 0), 9);
    }

    // ---- settings

    static void terms_setting0IsAtFirst3() {
        Cases.due("setting(0)", new VaultMovements().setting(0), 3);
    }

    static void terms_setting1IsAtFirst2() {
        Cases.due("setting(1)", new VaultMovements().setting(1), 2);
    }

    static void terms_setting2IsAtFirst500() {
        Cases.due("setting(2)", new VaultMovements().setting(2), 500);
    }
}
