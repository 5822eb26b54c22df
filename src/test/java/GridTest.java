/** Whole ranges, where cases name their ends: every opening of the week, every loss with every number of hours, every text. */
public final class GridTest {
    private static final int WEEK = 168;
    private static final String[] AHEAD = {"", "-,", "n+9,200,"};

    private GridTest() {
    }

    public static void main(String[] args) {
        nextOpenings();
        hoursByLoss();
        eachCharacterBehindEachText();
        eachNumberIsWound();
        eachHourMoreOrLessIsWound();
        eachShareOfDoors();
        Checks.end();
    }

    /** Each opening of the week alone, from each hour of the week. */
    private static void nextOpenings() {
        for (int opening = 0; opening < WEEK; opening++) {
            VaultMovements x = new VaultMovements();
            Clocks.setOnlyOpening(x, opening / 24, opening % 24);
            for (int hour = 0; hour < WEEK; hour++) {
                int due = opening > hour ? opening - hour : opening + WEEK - hour;
                Checks.due("4: count(4) in the hour " + hour + ", opening " + opening, x.count(4), due);
                x.pass(1);
            }
        }
    }

    /** Each loss, with each number of hours since the service up to the loss, for all hours that can be wound. */
    private static void hoursByLoss() {
        for (int loss = 0; loss <= 20; loss++) {
            for (int ran = 0; ran <= loss; ran++) {
                int[] runDownIn = new int[201];
                for (int wound = 1; wound <= 200; wound++) {
                    runDownIn[wound] = hoursToRunDown(wound, loss, ran);
                }
                runDownAsTold(loss, ran, runDownIn);
                for (int from = 1; from <= WEEK; from += 84) {
                    rightlyWound(loss, ran, runDownIn, from, from + 83);
                }
            }
        }
    }

    /** As the document tells it, hour by hour. */
    private static int hoursToRunDown(int wound, int loss, int ran) {
        int toRun = wound;
        for (int hours = 1; hours <= 1000; hours++) {
            boolean isLost = loss > 0 && (ran + hours) % loss == 0;
            toRun -= isLost ? 0 : 1;
            if (toRun == 0) {
                return hours;
            }
        }
        return -1;
    }

    /** A clock whose movement 2 has this loss, and has run so many hours since its service; its door is open. */
    private static VaultMovements withLoss(int loss, int ran) {
        VaultMovements x = new VaultMovements();
        x.wind(2, 200);
        x.lock();
        if (ran > 0) {
            x.pass(ran);
        }
        x.open();
        x.loss(2, loss);
        return x;
    }

    private static void runDownAsTold(int loss, int ran, int[] runDownIn) {
        VaultMovements x = withLoss(loss, ran);
        for (int wound = 1; wound <= 200; wound++) {
            x.wind(2, wound);
            Checks.due("17: property 5 of " + wound + ", loss " + loss + ", ran " + ran, x.movement(2, 5), runDownIn[wound]);
        }
    }

    private static void rightlyWound(int loss, int ran, int[] runDownIn, int from, int to) {
        VaultMovements x = withLoss(loss, ran);
        Clocks.shutAlways(x);
        for (int hours = from; hours <= to; hours++) {
            int due = -1;
            for (int wound = 1; wound <= 200; wound++) {
                due = runDownIn[wound] == hours ? wound : due;
            }
            int opening = (ran + hours) % WEEK;
            x.opening(opening / 24, opening % 24);
            Checks.due("24: rightWinding(2), opening in " + hours + ", loss " + loss + ", ran " + ran, x.rightWinding(2), due);
            x.opening(opening / 24, -1);
        }
    }

    /** All that a part can be, between spaces. */
    private static String parts() {
        StringBuilder parts = new StringBuilder(" - n ");
        for (int hours = 1; hours <= 200; hours++) {
            parts.append(hours).append(' ');
        }
        for (int hours = 1; hours <= 9; hours++) {
            parts.append("n+").append(hours).append(" n-").append(hours).append(' ');
        }
        return parts.toString();
    }

    /** Each character behind each text that begins a part, for each of the three parts. */
    private static void eachCharacterBehindEachText() {
        String parts = parts();
        for (int part = 0; part < 3; part++) {
            eachCharacterBehind("", part, parts);
            for (String text : parts.trim().split(" ")) {
                eachCharacterBehind(text, part, parts);
            }
            eachCharacterBehind("n+", part, parts);
            eachCharacterBehind("n-", part, parts);
        }
    }

    private static void eachCharacterBehind(String text, int part, String parts) {
        boolean isWhole = !text.isEmpty() && parts.contains(" " + text + " ");
        VaultMovements x = null;
        for (int code = 33; code <= 126; code++) {
            x = code % 20 == 13 ? new VaultMovements() : x;
            Checks.type(x, AHEAD[part] + text);
            int length = x.append(code);
            boolean isRight = code == ',' ? isWhole && part < 2 : parts.contains(" " + text + (char) code);
            Checks.due("14: firstError() of " + AHEAD[part] + text + (char) code, x.firstError(), isRight ? length : length - 1);
            x.clearBuffer();
        }
    }

    private static void eachNumberIsWound() {
        for (int hours = 1; hours <= 200; hours++) {
            VaultMovements x = Clocks.typed("-," + hours + ",-");
            Checks.due("15: windAll() of " + hours, x.windAll(), 1);
            Checks.due("15: wound to " + hours, x.movement(1, 0), hours);
        }
    }

    /** For each number of hours to the next opening. */
    private static void eachHourMoreOrLessIsWound() {
        for (int hours = 1; hours <= WEEK; hours++) {
            VaultMovements x = new VaultMovements();
            Clocks.setOnlyOpening(x, hours / 24 % 7, hours % 24);
            for (int more = -9; more <= 9; more++) {
                String text = more == 0 ? "n" : more > 0 ? "n+" + more : "n" + more;
                Checks.type(x, "-,-," + text);
                if (hours + more >= 1) {
                    Checks.due("15: windAll() of " + text, x.windAll(), 1);
                    Checks.due("15: wound to " + text + " of " + hours, x.movement(2, 0), hours + more);
                } else {
                    Checks.dueState("15: windAll() of " + text + " of " + hours, x, x::windAll);
                    x.clearBuffer();
                }
            }
        }
    }

    /** Each share that up to 80 doors can have, behind as many late doors. */
    private static void eachShareOfDoors() {
        for (int late = 0; late <= 79; late++) {
            VaultMovements x = new VaultMovements();
            x.wind(0, 20);
            for (int i = 0; i < late; i++) {
                Clocks.openOnce(x);
            }
            Clocks.shutAlways(x);
            for (int doors = late + 1; doors <= 80; doors++) {
                Clocks.openOnce(x);
                Checks.due("25: punctuality() of " + doors + " doors, " + late + " early", x.punctuality(),
                    (double) (doors - late) / doors);
            }
        }
    }
}
