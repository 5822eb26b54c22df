/** A vault clock of three movements, one of which has to run down for the door to open. */
public final class VaultMovements {
    public static final int NONE = -1;

    private static final int DAYS = 7;
    private static final int HOURS_OF_A_DAY = 24;
    private static final int USUAL_TIME = 8;
    private static final int USUAL_DAYS = 5;
    private static final int LAST_HOUR = 99999;
    private static final int MOVEMENTS = 3;
    private static final int MOST_HOURS = 200;
    private static final int MOST_LOSS = 20;
    private static final int NEVER_LATE = 1000;
    private static final int MOST_CHARACTERS = 60;
    private static final int MOST_SAVED = 6;

    private static final int SETTINGS = 3;
    private static final int TRIES_ALLOWED = 0;
    private static final int WAITING_HOURS = 1;
    private static final int SERVICE_HOURS = 2;
    private static final int[] SETTING_LEAST = {1, 1, 10};
    private static final int[] SETTING_MOST = {9, 24, 5000};
    private static final int[] SETTING_AT_FIRST = {3, 2, 500};

    // The state lies in one row of numbers, so that saving and undoing it is one copy and makes no object.
    private static final int HOUR = 0;
    private static final int LOCKED = 1;
    private static final int DUE = 2;
    private static final int RECENT_TRIES = 3;
    private static final int WAIT_END = 4;
    private static final int EARLY_TRIES = 5;
    private static final int OPENED = 6;
    private static final int ON_TIME = 7;
    private static final int LATE = 8;
    private static final int EARLY = 9;
    private static final int DRILLED = 10;
    private static final int FIRST_SETTING = 11;
    private static final int FIRST_DAY = FIRST_SETTING + SETTINGS;
    private static final int FIRST_MOVEMENT = FIRST_DAY + DAYS;
    private static final int MOVEMENT_SIZE = 4;
    private static final int STATE_SIZE = FIRST_MOVEMENT + MOVEMENTS * MOVEMENT_SIZE;

    // Within a movement's part of the row; the numbers are those of movement(movement, what) too.
    private static final int TO_RUN = 0;
    private static final int GOES = 1;
    private static final int LOSS = 2;
    private static final int RAN = 3;
    private static final int NEEDS_SERVICE = 4;
    private static final int RUNS_DOWN_IN = 5;

    private static final int LAST_COUNT = 14;
    private static final long HASH_START = 2699L;
    private static final int EXPONENT_OF_ONE = 1023;
    private static final int FRACTION_BITS = 52;

    private final int[] now = new int[STATE_SIZE];
    private final int[] saved = new int[MOST_SAVED * STATE_SIZE];
    private int savedStates = 0;
    private final int[] buffer = new int[MOST_CHARACTERS];
    private int length = 0;
    private final Windings windings = new Windings();

    public VaultMovements() {
        now[DUE] = NONE;
        for (int i = 0; i < SETTINGS; i++) {
            now[FIRST_SETTING + i] = SETTING_AT_FIRST[i];
        }
        for (int i = 0; i < DAYS; i++) {
            now[FIRST_DAY + i] = i < USUAL_DAYS ? USUAL_TIME : NONE;
        }
        for (int i = 0; i < MOVEMENTS; i++) {
            now[FIRST_MOVEMENT + i * MOVEMENT_SIZE + GOES] = 1;
        }
    }

    // ---- week, settings

    public int opening(int day, int time) throws IndexOutOfBoundsException, IllegalArgumentException {
        if (!isDay(day)) {
            throw new IndexOutOfBoundsException("no such day");
        }
        if (time != NONE && (time < 0 || time >= HOURS_OF_A_DAY)) {
            throw new IllegalArgumentException("the time is out of range");
        }
        return change(FIRST_DAY + day, time);
    }

    public int set(int setting, int value) throws IndexOutOfBoundsException, IllegalArgumentException {
        if (!isSetting(setting)) {
            throw new IndexOutOfBoundsException("no such setting");
        }
        if (value < SETTING_LEAST[setting] || value > SETTING_MOST[setting]) {
            throw new IllegalArgumentException("the value is out of range");
        }
        return change(FIRST_SETTING + setting, value);
    }

    // ---- movements

    public int wind(int movement, int hours)
            throws IndexOutOfBoundsException, IllegalArgumentException, IllegalStateException {
        if (!isMovement(movement)) {
            throw new IndexOutOfBoundsException("no such movement");
        }
        if (!areWindingHours(hours)) {
            throw new IllegalArgumentException("the hours are out of range");
        }
        if (isLocked() || !goes(movement)) {
            throw new IllegalStateException("the door is locked, or the movement is stopped");
        }
        return change(place(movement, TO_RUN), hours);
    }

    public int fault(int movement, boolean goes) throws IndexOutOfBoundsException {
        if (!isMovement(movement)) {
            throw new IndexOutOfBoundsException("no such movement");
        }
        return change(place(movement, GOES), goes ? 1 : 0);
    }

    public int loss(int movement, int loss) throws IndexOutOfBoundsException, IllegalArgumentException {
        if (!isMovement(movement)) {
            throw new IndexOutOfBoundsException("no such movement");
        }
        if (loss < 0 || loss > MOST_LOSS) {
            throw new IllegalArgumentException("the loss is out of range");
        }
        return change(place(movement, LOSS), loss);
    }

    public int service(int movement) throws IndexOutOfBoundsException, IllegalStateException {
        if (!isMovement(movement)) {
            throw new IndexOutOfBoundsException("no such movement");
        }
        if (isLocked()) {
            throw new IllegalStateException("the door is locked");
        }
        int ran = change(place(movement, RAN), 0);
        now[place(movement, GOES)] = 1;
        now[place(movement, LOSS)] = 0;
        return ran;
    }

    // ---- door, time

    public int lock() throws IllegalStateException {
        if (isLocked() || !someMovementRuns()) {
            throw new IllegalStateException("the door is locked, or no movement would run");
        }
        save();
        int toOpening = hoursToOpening();
        now[LOCKED] = 1;
        now[DUE] = toOpening == NONE ? NONE : now[HOUR] + toOpening;
        return toOpening;
    }

    public int open() throws IllegalStateException {
        if (!isLocked()) {
            throw new IllegalStateException("the door is open");
        }
        save();
        if (hoursToOpen(NONE) != 0) {
            countEarlyTry();
            return 0;
        }
        countOpening(latenessAfter(0));
        leaveOpen();
        return 1;
    }

    public int drill() throws IllegalStateException {
        if (!isLocked()) {
            throw new IllegalStateException("the door is open");
        }
        save();
        for (int i = 0; i < MOVEMENTS; i++) {
            now[place(i, TO_RUN)] = 0;
            now[place(i, GOES)] = 0;
        }
        leaveOpen();
        now[DRILLED]++;
        return now[DRILLED];
    }

    public int pass(int hours) throws IllegalArgumentException, IllegalStateException {
        if (hours < 1 || hours > MOST_HOURS) {
            throw new IllegalArgumentException("the hours are out of range");
        }
        if (now[HOUR] + hours > LAST_HOUR) {
            throw new IllegalStateException("the hour would be too late");
        }
        save();
        for (int i = 0; i < hours; i++) {
            passHour();
        }
        return movementsRunDown();
    }

    // ---- texts

    public int append(int code) throws IllegalArgumentException, IllegalStateException {
        if (code < 33 || code > 126) {
            throw new IllegalArgumentException("no such character");
        }
        if (length >= MOST_CHARACTERS) {
            throw new IllegalStateException("the buffer is full");
        }
        buffer[length] = code;
        length++;
        return length;
    }

    public int clearBuffer() {
        int before = length;
        length = 0;
        return before;
    }

    public int firstError() {
        return readBuffer();
    }

    public int windAll() throws IllegalArgumentException, IllegalStateException {
        if (readBuffer() < length || !windings.areComplete()) {
            throw new IllegalArgumentException("the buffer holds no complete windings");
        }
        int toOpening = hoursToOpening();
        if (isLocked() || !canWindAll(toOpening)) {
            throw new IllegalStateException("the door is locked, or a movement cannot be wound so");
        }
        save();
        int wound = 0;
        for (int i = 0; i < MOVEMENTS; i++) {
            if (windings.winds(i)) {
                now[place(i, TO_RUN)] = windings.hours(i, toOpening);
                wound++;
            }
        }
        length = 0;
        return wound;
    }

    public int undo() throws IllegalStateException {
        if (savedStates <= 0) {
            throw new IllegalStateException("no state is saved");
        }
        savedStates--;
        System.arraycopy(saved, savedStates * STATE_SIZE, now, 0, STATE_SIZE);
        return savedStates;
    }

    // ---- looks; nothing is changed

    public int movement(int movement, int what) throws IndexOutOfBoundsException, IllegalArgumentException {
        if (!isMovement(movement)) {
            throw new IndexOutOfBoundsException("no such movement");
        }
        if (what < TO_RUN || what > RUNS_DOWN_IN) {
            throw new IllegalArgumentException("no such property");
        }
        return property(movement, what);
    }

    public int day(int day) throws IndexOutOfBoundsException {
        if (!isDay(day)) {
            throw new IndexOutOfBoundsException("no such day");
        }
        return now[FIRST_DAY + day];
    }

    public int count(int what) throws IllegalArgumentException {
        if (what < 0 || what > LAST_COUNT) {
            throw new IllegalArgumentException("no such number");
        }
        return number(what);
    }

    public int setting(int setting) throws IndexOutOfBoundsException {
        if (!isSetting(setting)) {
            throw new IndexOutOfBoundsException("no such setting");
        }
        return now[FIRST_SETTING + setting];
    }

    // ---- what would be; nothing is changed, and the limit of hours does not matter

    public int opensIn() {
        return hoursToOpen(NONE);
    }

    public int lateness() {
        if (!isLocked()) {
            return 0;
        }
        int hours = hoursToOpen(NONE);
        return hours == NONE ? NEVER_LATE : latenessAfter(Math.max(hours, 1));
    }

    public int keyMovement() {
        int hours = hoursToOpen(NONE);
        for (int i = 0; i < MOVEMENTS; i++) {
            if (hoursToOpen(i) != hours) {
                return i;
            }
        }
        return NONE;
    }

    public int rightWinding(int movement) throws IndexOutOfBoundsException {
        if (!isMovement(movement)) {
            throw new IndexOutOfBoundsException("no such movement");
        }
        return hoursToWind(movement);
    }

    public double punctuality() {
        int doors = now[OPENED] + now[DRILLED];
        return doors == 0 ? 1.0 : (double) now[ON_TIME] / (double) doors;
    }

    public long digest() {
        long hash = HASH_START;
        for (int i = 0; i <= LAST_COUNT; i++) {
            hash = 31 * hash + number(i);
        }
        for (int i = 0; i < SETTINGS; i++) {
            hash = 31 * hash + now[FIRST_SETTING + i];
        }
        for (int i = 0; i < DAYS; i++) {
            hash = 31 * hash + now[FIRST_DAY + i];
        }
        for (int i = 0; i < MOVEMENTS; i++) {
            for (int what = TO_RUN; what <= RUNS_DOWN_IN; what++) {
                hash = 31 * hash + property(i, what);
            }
            hash = 31 * hash + hoursToWind(i);
        }
        hash = 31 * hash + opensIn();
        hash = 31 * hash + lateness();
        hash = 31 * hash + keyMovement();
        hash = 31 * hash + bitsOfShare(punctuality());
        hash = 31 * hash + length;
        for (int i = 0; i < length; i++) {
            hash = 31 * hash + buffer[i];
        }
        return hash;
    }

    // ---- what numbers mean

    private static boolean isDay(int day) {
        return day >= 0 && day < DAYS;
    }

    private static boolean isSetting(int setting) {
        return setting >= 0 && setting < SETTINGS;
    }

    private static boolean isMovement(int movement) {
        return movement >= 0 && movement < MOVEMENTS;
    }

    private static boolean areWindingHours(int hours) {
        return hours >= 1 && hours <= MOST_HOURS;
    }

    private static boolean isLostHour(int ran, int loss) {
        return loss > 0 && ran % loss == 0;
    }

    /** The bits of a share, 0 or 1/512 to 1, made by hand: LANGUAGE.md has no library call that tells them. */
    private static long bitsOfShare(double share) {
        if (share <= 0.0) {
            return 0L;
        }
        double scaled = share;
        long exponent = EXPONENT_OF_ONE;
        for (int i = 1; i < EXPONENT_OF_ONE && scaled < 1.0; i++) {
            scaled = scaled * 2.0;
            exponent--;
        }
        long fraction = (long) ((scaled - 1.0) * (double) (1L << FRACTION_BITS));
        return (exponent << FRACTION_BITS) + fraction;
    }

    // ---- saved states

    /** Saves the state, changes one number of it, and tells what it was. */
    private int change(int place, int value) {
        save();
        int before = now[place];
        now[place] = value;
        return before;
    }

    private void save() {
        if (savedStates >= MOST_SAVED) {
            System.arraycopy(saved, STATE_SIZE, saved, 0, (MOST_SAVED - 1) * STATE_SIZE);
            savedStates = MOST_SAVED - 1;
        }
        System.arraycopy(now, 0, saved, savedStates * STATE_SIZE, STATE_SIZE);
        savedStates++;
    }

    // ---- the week

    private int today() {
        return now[HOUR] / HOURS_OF_A_DAY % DAYS;
    }

    private int timeOfDay() {
        return now[HOUR] % HOURS_OF_A_DAY;
    }

    private int hoursToOpening() {
        // Day 7 ahead is today's weekday again: its opening may be past today, and the only one.
        for (int ahead = 0; ahead <= DAYS; ahead++) {
            int time = now[FIRST_DAY + (today() + ahead) % DAYS];
            int hours = ahead * HOURS_OF_A_DAY + time - timeOfDay();
            if (time != NONE && hours > 0) {
                return hours;
            }
        }
        return NONE;
    }

    // ---- movements

    private static int place(int movement, int what) {
        return FIRST_MOVEMENT + movement * MOVEMENT_SIZE + what;
    }

    private boolean goes(int movement) {
        return now[place(movement, GOES)] != 0;
    }

    private int property(int movement, int what) {
        if (what == NEEDS_SERVICE) {
            return now[place(movement, RAN)] >= now[FIRST_SETTING + SERVICE_HOURS] ? 1 : 0;
        }
        if (what == RUNS_DOWN_IN) {
            return hoursToRunDown(movement, goes(movement));
        }
        return now[place(movement, what)];
    }

    private boolean someMovementRuns() {
        for (int i = 0; i < MOVEMENTS; i++) {
            if (goes(i) && now[place(i, TO_RUN)] > 0) {
                return true;
            }
        }
        return false;
    }

    private int movementsRunDown() {
        int runDown = 0;
        for (int i = 0; i < MOVEMENTS; i++) {
            if (now[place(i, TO_RUN)] == 0) {
                runDown++;
            }
        }
        return runDown;
    }

    private int hoursToRunDown(int movement, boolean going) {
        int toRun = now[place(movement, TO_RUN)];
        int loss = now[place(movement, LOSS)];
        if (toRun == 0) {
            return 0;
        }
        if (!going || loss == 1) {
            return NONE;
        }
        if (loss <= 0) {
            return toRun;
        }
        // Each loss - 1 hours that count are followed by a lost one, but for the very last hour, which counts.
        int countedBefore = now[place(movement, RAN)] % loss;
        return toRun + (countedBefore + toRun - 1) / (loss - 1);
    }

    private int hoursToWind(int movement) {
        int hours = hoursToOpening();
        int loss = now[place(movement, LOSS)];
        int ran = now[place(movement, RAN)];
        if (hours == NONE || !goes(movement) || isLostHour(ran + hours, loss)) {
            return NONE;
        }
        int lost = loss <= 0 ? 0 : (ran + hours) / loss - ran / loss;
        return areWindingHours(hours - lost) ? hours - lost : NONE;
    }

    private boolean canWindAll(int toOpening) {
        for (int i = 0; i < MOVEMENTS; i++) {
            if (windings.winds(i) && !(goes(i) && areWindingHours(windings.hours(i, toOpening)))) {
                return false;
            }
        }
        return true;
    }

    // ---- door, time

    private boolean isLocked() {
        return now[LOCKED] != 0;
    }

    private void passHour() {
        now[HOUR]++;
        if (isLocked()) {
            for (int i = 0; i < MOVEMENTS; i++) {
                runHour(i);
            }
        }
    }

    private void runHour(int movement) {
        if (!goes(movement) || now[place(movement, TO_RUN)] == 0) {
            return;
        }
        now[place(movement, RAN)]++;
        if (!isLostHour(now[place(movement, RAN)], now[place(movement, LOSS)])) {
            now[place(movement, TO_RUN)]--;
        }
    }

    private int hoursToWait() {
        return Math.max(now[WAIT_END] - now[HOUR], 0);
    }

    /** As opensIn, if the movement stopped was stopped now (none more with NONE). */
    private int hoursToOpen(int stopped) {
        if (!isLocked()) {
            return NONE;
        }
        int least = NONE;
        for (int i = 0; i < MOVEMENTS; i++) {
            int hours = hoursToRunDown(i, goes(i) && i != stopped);
            if (hours != NONE && (least == NONE || hours < least)) {
                least = hours;
            }
        }
        return least == NONE ? NONE : Math.max(least, hoursToWait());
    }

    /** Hours by which the door is late, if it opens after these hours; below 0 if it is early. */
    private int latenessAfter(int hours) {
        return now[DUE] == NONE ? 0 : now[HOUR] + hours - now[DUE];
    }

    private void countEarlyTry() {
        now[EARLY_TRIES]++;
        now[RECENT_TRIES]++;
        if (now[RECENT_TRIES] >= now[FIRST_SETTING + TRIES_ALLOWED]) {
            now[WAIT_END] = now[HOUR] + now[FIRST_SETTING + WAITING_HOURS];
            now[RECENT_TRIES] = 0;
        }
    }

    private void countOpening(int hoursLate) {
        now[OPENED]++;
        if (hoursLate > 0) {
            now[LATE]++;
        } else if (hoursLate < 0) {
            now[EARLY]++;
        } else {
            now[ON_TIME]++;
        }
    }

    private void leaveOpen() {
        now[LOCKED] = 0;
        now[DUE] = NONE;
        now[RECENT_TRIES] = 0;
        now[WAIT_END] = 0;
    }

    // ---- looks

    private int number(int what) {
        switch (what) {
            case 0: return now[HOUR];
            case 1: return today();
            case 2: return timeOfDay();
            case 3: return now[LOCKED];
            case 4: return hoursToOpening();
            case 5: return now[DUE];
            case 6: return now[RECENT_TRIES];
            case 7: return hoursToWait();
            case 8: return now[EARLY_TRIES];
            case 9: return now[OPENED];
            case 10: return now[ON_TIME];
            case 11: return now[LATE];
            case 12: return now[EARLY];
            case 13: return now[DRILLED];
            default: return savedStates;
        }
    }

    // ---- texts

    /** Reads the buffer into the windings, up to its first syntax error, and tells where that is, or its length. */
    private int readBuffer() {
        windings.restart();
        for (int i = 0; i < length; i++) {
            if (!windings.take(buffer[i])) {
                return i;
            }
        }
        return length;
    }

    /** Windings as a text, read a character at a time. */
    private static final class Windings {
        private static final int MISSING = 0;
        private static final int LEFT_AS_IT_IS = 1;
        private static final int NUMBER = 2;
        private static final int TO_OPENING = 3;

        private final int[] kinds = new int[MOVEMENTS];
        private final int[] signs = new int[MOVEMENTS];
        private final int[] numbers = new int[MOVEMENTS];
        private int part = 0;

        void restart() {
            part = 0;
            for (int i = 0; i < MOVEMENTS; i++) {
                kinds[i] = MISSING;
                signs[i] = 0;
                numbers[i] = 0;
            }
        }

        boolean areComplete() {
            return part == MOVEMENTS - 1 && isPartComplete();
        }

        boolean winds(int movement) {
            return kinds[movement] != LEFT_AS_IT_IS;
        }

        /** The hours of a movement that it winds; NONE for an "n" if there is no next opening. */
        int hours(int movement, int toOpening) {
            if (kinds[movement] == NUMBER) {
                return numbers[movement];
            }
            return toOpening == NONE ? NONE : toOpening + signs[movement] * numbers[movement];
        }

        /** Takes a character, and tells whether it can stand here; nothing is changed if it can't. */
        boolean take(int code) {
            if (code == ',') {
                return takeComma();
            }
            switch (kinds[part]) {
                case MISSING: return takeFirst(code);
                case NUMBER: return takeNextDigit(code);
                case TO_OPENING: return takeMoreOrLess(code);
                default: return false;
            }
        }

        private boolean isPartComplete() {
            if (kinds[part] == TO_OPENING) {
                return signs[part] == 0 || numbers[part] > 0;
            }
            return kinds[part] != MISSING;
        }

        private boolean takeComma() {
            if (part >= MOVEMENTS - 1 || !isPartComplete()) {
                return false;
            }
            part++;
            return true;
        }

        private boolean takeFirst(int code) {
            if (code == '-') {
                kinds[part] = LEFT_AS_IT_IS;
            } else if (code == 'n') {
                kinds[part] = TO_OPENING;
            } else if (code >= '1' && code <= '9') {
                kinds[part] = NUMBER;
                numbers[part] = code - '0';
            } else {
                return false;
            }
            return true;
        }

        private boolean takeNextDigit(int code) {
            int number = numbers[part] * 10 + code - '0';
            if (code < '0' || code > '9' || number > MOST_HOURS) {
                return false;
            }
            numbers[part] = number;
            return true;
        }

        private boolean takeMoreOrLess(int code) {
            if (signs[part] == 0 && (code == '+' || code == '-')) {
                signs[part] = code == '+' ? 1 : -1;
                return true;
            }
            if (signs[part] != 0 && numbers[part] == 0 && code >= '1' && code <= '9') {
                numbers[part] = code - '0';
                return true;
            }
            return false;
        }
    }
}
