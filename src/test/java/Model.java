import java.util.ArrayList;
import java.util.List;

/** The document told once more, hour by hour and in the slowest way, to compare answers with. */
final class Model {
    static final class Movement {
        int toRun = 0;
        boolean goes = true;
        int loss = 0;
        int ran = 0;

        Movement copy() {
            Movement copy = new Movement();
            copy.toRun = toRun;
            copy.goes = goes;
            copy.loss = loss;
            copy.ran = ran;
            return copy;
        }

        void hour() {
            if (goes && toRun > 0) {
                ran++;
                if (!(loss > 0 && ran % loss == 0)) {
                    toRun--;
                }
            }
        }
    }

    static final class State {
        int hour = 0;
        boolean locked = false;
        int due = -1;
        int tries = 0;
        int waitedSince = -1;
        int waitingHours = 0;
        int earlyTries = 0;
        int onTime = 0;
        int late = 0;
        int early = 0;
        int drilled = 0;
        int[] settings = {3, 2, 500};
        int[] openings = {8, 8, 8, 8, 8, -1, -1};
        Movement[] movements = {new Movement(), new Movement(), new Movement()};

        State copy() {
            State copy = new State();
            copy.hour = hour;
            copy.locked = locked;
            copy.due = due;
            copy.tries = tries;
            copy.waitedSince = waitedSince;
            copy.waitingHours = waitingHours;
            copy.earlyTries = earlyTries;
            copy.onTime = onTime;
            copy.late = late;
            copy.early = early;
            copy.drilled = drilled;
            copy.settings = settings.clone();
            copy.openings = openings.clone();
            copy.movements = new Movement[] {movements[0].copy(), movements[1].copy(), movements[2].copy()};
            return copy;
        }

        void passHour() {
            hour++;
            if (locked) {
                for (Movement m : movements) {
                    m.hour();
                }
            }
        }

        boolean waits() {
            return waitedSince >= 0 && hour - waitedSince < waitingHours;
        }

        boolean canOpen() {
            boolean down = false;
            for (Movement m : movements) {
                down |= m.toRun == 0;
            }
            return locked && down && !waits();
        }

        void leaveOpen() {
            locked = false;
            due = -1;
            tries = 0;
            waitedSince = -1;
        }
    }

    private static final int FAR = 700;
    State now = new State();
    final List<State> saved = new ArrayList<>();
    final StringBuilder text = new StringBuilder();

    private void save() {
        saved.add(now.copy());
        if (saved.size() > 6) {
            saved.remove(0);
        }
    }

    private static void index(boolean right) {
        if (!right) {
            throw new IndexOutOfBoundsException();
        }
    }

    private static void argument(boolean right) {
        if (!right) {
            throw new IllegalArgumentException();
        }
    }

    private static void state(boolean right) {
        if (!right) {
            throw new IllegalStateException();
        }
    }

    private static boolean isIn(int value, int least, int most) {
        return least <= value && value <= most;
    }

    int opening(int day, int time) {
        index(isIn(day, 0, 6));
        argument(isIn(time, -1, 23));
        save();
        int before = now.openings[day];
        now.openings[day] = time;
        return before;
    }

    int set(int setting, int value) {
        index(isIn(setting, 0, 2));
        argument(setting == 0 ? isIn(value, 1, 9) : setting == 1 ? isIn(value, 1, 24) : isIn(value, 10, 5000));
        save();
        int before = now.settings[setting];
        now.settings[setting] = value;
        return before;
    }

    int wind(int movement, int hours) {
        index(isIn(movement, 0, 2));
        argument(isIn(hours, 1, 200));
        state(!now.locked && now.movements[movement].goes);
        save();
        int before = now.movements[movement].toRun;
        now.movements[movement].toRun = hours;
        return before;
    }

    int fault(int movement, boolean goes) {
        index(isIn(movement, 0, 2));
        save();
        boolean before = now.movements[movement].goes;
        now.movements[movement].goes = goes;
        return before ? 1 : 0;
    }

    int loss(int movement, int loss) {
        index(isIn(movement, 0, 2));
        argument(isIn(loss, 0, 20));
        save();
        int before = now.movements[movement].loss;
        now.movements[movement].loss = loss;
        return before;
    }

    int service(int movement) {
        index(isIn(movement, 0, 2));
        state(!now.locked);
        save();
        Movement m = now.movements[movement];
        int before = m.ran;
        m.goes = true;
        m.loss = 0;
        m.ran = 0;
        return before;
    }

    int lock() {
        boolean some = false;
        for (Movement m : now.movements) {
            some |= m.goes && m.toRun > 0;
        }
        state(!now.locked && some);
        save();
        now.locked = true;
        now.due = nextOpening();
        now.tries = 0;
        return now.due == -1 ? -1 : now.due - now.hour;
    }

    int open() {
        state(now.locked);
        save();
        if (now.canOpen()) {
            if (now.due == -1 || now.due == now.hour) {
                now.onTime++;
            } else if (now.due < now.hour) {
                now.late++;
            } else {
                now.early++;
            }
            now.leaveOpen();
            return 1;
        }
        now.earlyTries++;
        now.tries++;
        if (now.tries >= now.settings[0]) {
            now.waitedSince = now.hour;
            now.waitingHours = now.settings[1];
            now.tries = 0;
        }
        return 0;
    }

    int drill() {
        state(now.locked);
        save();
        for (Movement m : now.movements) {
            m.toRun = 0;
            m.goes = false;
        }
        now.leaveOpen();
        return ++now.drilled;
    }

    int pass(int hours) {
        argument(isIn(hours, 1, 200));
        state(now.hour + hours <= 99999);
        save();
        for (int i = 0; i < hours; i++) {
            now.passHour();
        }
        int down = 0;
        for (Movement m : now.movements) {
            down += m.toRun == 0 ? 1 : 0;
        }
        return down;
    }

    int append(int code) {
        argument(isIn(code, 33, 126));
        state(text.length() < 60);
        text.append((char) code);
        return text.length();
    }

    int clearBuffer() {
        int before = text.length();
        text.setLength(0);
        return before;
    }

    private static final String PART = "(-|[1-9]|[1-9][0-9]|1[0-9][0-9]|200|n|n[+-][1-9])";
    private static final String BEGUN = "(|-|[1-9]|[1-9][0-9]|1[0-9][0-9]|200|n|n[+-]|n[+-][1-9])";

    int firstError() {
        for (int i = 0; i < text.length(); i++) {
            if (!text.substring(0, i + 1).matches("(" + PART + ",){0,2}" + BEGUN)) {
                return i;
            }
        }
        return text.length();
    }

    int windAll() {
        argument(text.toString().matches(PART + "," + PART + "," + PART));
        String[] parts = text.toString().split(",");
        int[] hours = new int[3];
        boolean right = !now.locked;
        for (int i = 0; i < 3; i++) {
            if (!parts[i].equals("-")) {
                hours[i] = hoursOf(parts[i]);
                right &= now.movements[i].goes && isIn(hours[i], 1, 200);
            }
        }
        state(right);
        save();
        int wound = 0;
        for (int i = 0; i < 3; i++) {
            if (hours[i] > 0) {
                now.movements[i].toRun = hours[i];
                wound++;
            }
        }
        text.setLength(0);
        return wound;
    }

    private int hoursOf(String part) {
        if (part.charAt(0) != 'n') {
            return Integer.parseInt(part);
        }
        if (nextOpening() == -1) {
            return -1;
        }
        return nextOpening() - now.hour + (part.length() == 1 ? 0 : Integer.parseInt(part.substring(1)));
    }

    int undo() {
        state(!saved.isEmpty());
        now = saved.remove(saved.size() - 1);
        return saved.size();
    }

    private int nextOpening() {
        for (int hour = now.hour + 1; hour <= now.hour + 400; hour++) {
            if (now.openings[hour / 24 % 7] == hour % 24) {
                return hour;
            }
        }
        return -1;
    }

    int movement(int movement, int what) {
        index(isIn(movement, 0, 2));
        argument(isIn(what, 0, 5));
        Movement m = now.movements[movement].copy();
        switch (what) {
            case 0: return m.toRun;
            case 1: return m.goes ? 1 : 0;
            case 2: return m.loss;
            case 3: return m.ran;
            case 4: return m.ran >= now.settings[2] ? 1 : 0;
            default: break;
        }
        for (int hours = 0; hours <= FAR; hours++) {
            if (m.toRun == 0) {
                return hours;
            }
            m.hour();
        }
        return -1;
    }

    int day(int day) {
        index(isIn(day, 0, 6));
        return now.openings[day];
    }

    int count(int what) {
        argument(isIn(what, 0, 14));
        int opened = now.onTime + now.late + now.early;
        int[] counts = {now.hour, now.hour / 24 % 7, now.hour % 24, now.locked ? 1 : 0,
            nextOpening() == -1 ? -1 : nextOpening() - now.hour, now.due, now.tries,
            now.waits() ? now.waitedSince + now.waitingHours - now.hour : 0, now.earlyTries, opened,
            now.onTime, now.late, now.early, now.drilled, saved.size()};
        return counts[what];
    }

    int setting(int setting) {
        index(isIn(setting, 0, 2));
        return now.settings[setting];
    }

    private static int opensIn(State state) {
        State later = state.copy();
        for (int hours = 0; hours <= FAR; hours++) {
            if (later.canOpen()) {
                return hours;
            }
            later.passHour();
        }
        return -1;
    }

    int opensIn() {
        return opensIn(now);
    }

    int lateness() {
        if (!now.locked) {
            return 0;
        }
        State later = now.copy();
        for (int hours = 1; hours <= FAR; hours++) {
            later.passHour();
            if (later.canOpen()) {
                return later.due == -1 ? 0 : later.hour - later.due;
            }
        }
        return 1000;
    }

    int keyMovement() {
        for (int i = 0; i < 3; i++) {
            State other = now.copy();
            other.movements[i].goes = false;
            if (now.locked && opensIn(other) != opensIn(now)) {
                return i;
            }
        }
        return -1;
    }

    int rightWinding(int movement) {
        index(isIn(movement, 0, 2));
        int opening = nextOpening();
        for (int hours = 1; hours <= 200 && opening != -1; hours++) {
            Movement m = now.movements[movement].copy();
            m.toRun = hours;
            int ranDownAt = -1;
            for (int hour = now.hour + 1; hour <= opening && ranDownAt == -1; hour++) {
                m.hour();
                ranDownAt = m.toRun == 0 ? hour : -1;
            }
            if (ranDownAt == opening) {
                return hours;
            }
        }
        return -1;
    }

    double punctuality() {
        int doors = now.onTime + now.late + now.early + now.drilled;
        return doors == 0 ? 1.0 : (double) now.onTime / doors;
    }

    long digest() {
        long hash = 2699;
        for (int i = 0; i <= 14; i++) {
            hash = 31 * hash + count(i);
        }
        for (int i = 0; i <= 2; i++) {
            hash = 31 * hash + setting(i);
        }
        for (int i = 0; i <= 6; i++) {
            hash = 31 * hash + day(i);
        }
        for (int i = 0; i <= 2; i++) {
            for (int what = 0; what <= 5; what++) {
                hash = 31 * hash + movement(i, what);
            }
            hash = 31 * hash + rightWinding(i);
        }
        hash = 31 * hash + opensIn();
        hash = 31 * hash + lateness();
        hash = 31 * hash + keyMovement();
        hash = 31 * hash + Double.doubleToLongBits(punctuality());
        hash = 31 * hash + text.length();
        for (int i = 0; i < text.length(); i++) {
            hash = 31 * hash + text.charAt(i);
        }
        return hash;
    }
}
