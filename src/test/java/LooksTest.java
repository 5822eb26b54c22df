/** Promises 17 to 20: looks. */
public final class LooksTest {
    private static final int[] WRONG = {-1, Integer.MAX_VALUE, Integer.MIN_VALUE};

    public static void main(String[] args) {
        promise17();
        promise17RunsDown();
        promise18();
        promise19();
        promise20();
        Checks.end();
    }

    private static void promise17() {
        VaultMovements x = new VaultMovements();
        x.set(2, 10);
        x.wind(0, 30);
        x.wind(1, 9);
        x.loss(2, 5);
        x.fault(2, false);
        x.lock();
        x.pass(9);
        Checks.due("17: hours to run", x.movement(0, 0), 21);
        Checks.due("17: goes", x.movement(0, 1), 1);
        Checks.due("17: stopped", x.movement(2, 1), 0);
        Checks.due("17: loss", x.movement(2, 2), 5);
        Checks.due("17: ran", x.movement(0, 3), 9);
        Checks.due("17: no service yet", x.movement(0, 4), 0);
        x.pass(1);
        Checks.due("17: service at setting 2", x.movement(0, 4), 1);
        Checks.due("17: no service", x.movement(1, 4), 0);
        x.set(2, 11);
        Checks.due("17: by the setting", x.movement(0, 4), 0);
        x.pass(1);
        Checks.due("17: above", x.movement(0, 4), 1);
        for (int wrong : WRONG) {
            Checks.dueIndex("17: movement(" + wrong + ", 0)", x, () -> x.movement(wrong, 0));
            Checks.dueIndex("17: movement(" + wrong + ", 6)", x, () -> x.movement(wrong, 6));
            Checks.dueArgument("17: movement(0, " + wrong + ")", x, () -> x.movement(0, wrong));
        }
        Checks.dueIndex("17: movement(3, 0)", x, () -> x.movement(3, 0));
        Checks.dueArgument("17: movement(2, 6)", x, () -> x.movement(2, 6));
    }

    private static void promise17RunsDown() {
        VaultMovements x = new VaultMovements();
        Checks.due("17: 0 if it has", x.movement(0, 5), 0);
        x.fault(0, false);
        Checks.due("17: 0 also if stopped", x.movement(0, 5), 0);
        x.wind(1, 200);
        Checks.due("17: without loss", x.movement(1, 5), 200);
        x.loss(1, 2);
        Checks.due("17: every second is lost", x.movement(1, 5), 399);
        x.loss(1, 1);
        Checks.due("17: all are lost", x.movement(1, 5), -1);
        x.loss(1, 3);
        x.wind(1, 2);
        Checks.due("17: before the lost one", x.movement(1, 5), 2);
        x.wind(1, 3);
        Checks.due("17: after the lost one", x.movement(1, 5), 4);
        x.fault(1, false);
        Checks.due("17: stopped", x.movement(1, 5), -1);
        x.fault(1, true);
        x.wind(2, 9);
        x.lock();
        x.pass(2);
        Checks.due("17: the next is lost", x.movement(1, 5), 2);
        x.pass(1);
        Checks.due("17: it was lost", x.movement(1, 5), 1);
        x.pass(1);
        Checks.due("17: down", x.movement(1, 5), 0);
    }

    private static void promise18() {
        VaultMovements x = new VaultMovements();
        x.opening(3, 0);
        x.opening(4, -1);
        x.opening(6, 23);
        int[] times = {8, 8, 8, 0, -1, -1, 23};
        for (int day = 0; day < 7; day++) {
            Checks.due("18: day(" + day + ")", x.day(day), times[day]);
        }
        for (int wrong : WRONG) {
            Checks.dueIndex("18: day(" + wrong + ")", x, () -> x.day(wrong));
        }
        Checks.dueIndex("18: day(7)", x, () -> x.day(7));
    }

    private static void promise19() {
        VaultMovements x = new VaultMovements();
        x.pass(175);
        Checks.due("19: the hour", x.count(0), 175);
        Checks.due("19: the day, after a week", x.count(1), 0);
        Checks.due("19: the time of day", x.count(2), 7);
        Checks.due("19: an hour to the opening", x.count(4), 1);
        x.pass(1);
        Checks.due("19: later than now", x.count(4), 24);
        x.pass(96);
        Checks.due("19: friday, over the weekend", x.count(4), 72);
        for (int day = 0; day < 7; day++) {
            x.opening(day, day == 4 ? 8 : -1);
        }
        Checks.due("19: a whole week", x.count(4), 168);
        x.opening(4, 7);
        Checks.due("19: a week less an hour", x.count(4), 167);
        x.opening(4, 9);
        Checks.due("19: today", x.count(4), 1);
        x.opening(4, -1);
        Checks.due("19: none", x.count(4), -1);
        Checks.due("19: the door", x.count(3), 0);
        VaultMovements y = Checks.lockedWith(8, 8, 8);
        Checks.due("19: locked", y.count(3), 1);
        Checks.due("19: due", y.count(5), 8);
        y.pass(10);
        Checks.due("19: due stays, though past", y.count(5), 8);
        for (int wrong : WRONG) {
            Checks.dueArgument("19: count(" + wrong + ")", y, () -> y.count(wrong));
        }
        Checks.dueArgument("19: count(15)", y, () -> y.count(15));
    }

    private static void promise20() {
        VaultMovements x = new VaultMovements();
        x.set(0, 4);
        x.set(1, 5);
        x.set(2, 60);
        Checks.due("20: setting(0)", x.setting(0), 4);
        Checks.due("20: setting(1)", x.setting(1), 5);
        Checks.due("20: setting(2)", x.setting(2), 60);
        for (int wrong : WRONG) {
            Checks.dueIndex("20: setting(" + wrong + ")", x, () -> x.setting(wrong));
        }
        Checks.dueIndex("20: setting(3)", x, () -> x.setting(3));
    }
}
