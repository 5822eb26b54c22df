/** Promises 12 to 16: texts and undo. */
public final class TextsTest {
    public static void main(String[] args) {
        promise12();
        promise13();
        promise14();
        promise15();
        promise15Shorter();
        promise15Wrong();
        promise16();
        promise16Buffer();
        Checks.end();
    }

    private static void promise12() {
        VaultMovements x = new VaultMovements();
        for (int code : new int[] {32, 127, 0, -1, Integer.MAX_VALUE, Integer.MIN_VALUE}) {
            Checks.dueArgument("12: append(" + code + ")", x, () -> x.append(code));
        }
        Checks.due("12: append(33)", x.append(33), 1);
        Checks.due("12: append(126)", x.append(126), 2);
        Checks.due("12: digest()", x.digest(), Checks.digestOf(x, "!~"));
        for (int i = 3; i <= 60; i++) {
            Checks.due("12: append(110)", x.append(110), i);
        }
        Checks.dueState("12: full", x, () -> x.append(110));
        Checks.dueArgument("12: full, no such character", x, () -> x.append(127));
        Checks.due("12: not undoable", x.count(14), 0);
    }

    private static void promise13() {
        VaultMovements x = new VaultMovements();
        Checks.due("13: empty", x.clearBuffer(), 0);
        Checks.type(x, "n,n");
        Checks.due("13: clearBuffer()", x.clearBuffer(), 3);
        Checks.due("13: cleared", x.clearBuffer(), 0);
        Checks.due("13: digest()", x.digest(), Checks.digestOf(x, ""));
        Checks.due("13: not undoable", x.count(14), 0);
        Checks.due("13: append(45)", x.append('-'), 1);
    }

    private static void promise14() {
        String[] right = {"", "-", "n", "1", "2", "20", "200", "199", "9", "99", "100", "n+", "n-", "n+1", "n-9", "-,", "n,",
            "1,", "n+1,", "-,-,-", "200,200,200", "n+9,n-9,n", "1,2,3", "1,-,n-", "-,n"};
        for (String text : right) {
            dueError(text, text.length());
        }
        dueError("0", 0);
        dueError("01", 0);
        dueError("+", 0);
        dueError(",", 0);
        dueError("N", 0);
        dueError("a", 0);
        dueError("/", 0);
        dueError(":", 0);
        dueError("201", 2);
        dueError("209", 2);
        dueError("21,210", 5);
        dueError("2000", 3);
        dueError("1000", 3);
        dueError("300", 2);
        dueError("1/", 1);
        dueError("1:", 1);
        dueError("1n", 1);
        dueError("1-", 1);
        dueError("1+1", 1);
        dueError("-1", 1);
        dueError("--", 1);
        dueError("-n", 1);
        dueError("nn", 1);
        dueError("n1", 1);
        dueError("n+0", 2);
        dueError("n-0", 2);
        dueError("n++", 2);
        dueError("n+-", 2);
        dueError("n+,", 2);
        dueError("n-,-,-", 2);
        dueError("n+:", 2);
        dueError("n+10", 3);
        dueError("n+1+", 3);
        dueError("n+1-1", 3);
        dueError(",1,1", 0);
        dueError("1,,1", 2);
        dueError("-,-,,", 4);
        dueError("-,-,-,", 5);
        dueError("-,-,-!", 5);
        dueError("1,2,3,4", 5);
        dueError("1,2,n+9,", 7);
        dueError("1,0,x", 2);
    }

    private static void dueError(String text, int index) {
        VaultMovements x = new VaultMovements();
        Checks.type(x, text);
        Checks.due("14: firstError() of " + text, x.firstError(), index);
        Checks.due("14: again", x.firstError(), index);
        Checks.due("14: nothing is changed", x.digest(), Checks.digestOf(x, text));
    }

    private static void promise15() {
        VaultMovements x = new VaultMovements();
        Checks.type(x, "200,-,n+9");
        Checks.due("15: windAll()", x.windAll(), 2);
        Checks.due("15: a number", x.movement(0, 0), 200);
        Checks.due("15: left as it is", x.movement(1, 0), 0);
        Checks.due("15: n+9", x.movement(2, 0), 17);
        Checks.due("15: the buffer is cleared", x.clearBuffer(), 0);
        Checks.due("15: saved once", x.count(14), 1);
        x.pass(3);
        Checks.type(x, "n-4,n,1");
        Checks.due("15: windAll() of three", x.windAll(), 3);
        Checks.due("15: n-4", x.movement(0, 0), 1);
        Checks.due("15: n", x.movement(1, 0), 5);
        Checks.due("15: 1", x.movement(2, 0), 1);
        x.undo();
        Checks.due("15: undone as one call", x.movement(0, 0), 200);
        Checks.due("15: undone as one call", x.movement(1, 0), 0);
        Checks.due("15: the buffer stays clear", x.clearBuffer(), 0);
        x.fault(0, false);
        x.fault(1, false);
        x.fault(2, false);
        Checks.type(x, "-,-,-");
        Checks.due("15: nothing is wound, stopped or not", x.windAll(), 0);
        Checks.due("15: saved", x.count(14), 6);
        Checks.due("15: the buffer is cleared", x.clearBuffer(), 0);
    }

    private static void promise15Shorter() {
        VaultMovements x = new VaultMovements();
        Checks.type(x, "1,2,34,-");
        x.clearBuffer();
        Checks.type(x, "1,2,3");
        Checks.due("15: what was cleared is gone", x.windAll(), 3);
        Checks.due("15: what was cleared is gone", x.movement(2, 0), 3);
        Checks.type(x, "5,6");
        Checks.dueArgument("15: what was wound is gone", x, () -> x.windAll());
    }

    private static void promise15Wrong() {
        for (String text : new String[] {"", "1", "1,2", "1,2,", "1,2,n+", "n-,1,1", "1,2,3,", "1,2,3x", "x", "0,1,1", "201,1,1"}) {
            VaultMovements x = new VaultMovements();
            Checks.type(x, text);
            Checks.dueArgument("15: windAll() of " + text, x, () -> x.windAll());
            Checks.due("15: the buffer stays", x.clearBuffer(), text.length());
        }
        VaultMovements locked = Checks.lockedWith(9, 9, 9);
        Checks.dueArgument("15: locked, but no windings", locked, () -> locked.windAll());
        Checks.type(locked, "-,-,-");
        Checks.dueState("15: locked, nothing to wind", locked, () -> locked.windAll());
        for (int i = 0; i < 3; i++) {
            VaultMovements stopped = new VaultMovements();
            stopped.fault(i, false);
            Checks.type(stopped, "5,5,5");
            Checks.dueState("15: a stopped one", stopped, () -> stopped.windAll());
            Checks.due("15: the buffer stays", stopped.clearBuffer(), 5);
        }
        for (String text : new String[] {"n-8,5,5", "5,n-8,5", "5,5,n-8", "n-9,-,-"}) {
            VaultMovements low = new VaultMovements();
            Checks.type(low, text);
            Checks.dueState("15: 0 hours or less in " + text, low, () -> low.windAll());
            Checks.due("15: the buffer stays", low.clearBuffer(), text.length());
        }
        VaultMovements shut = new VaultMovements();
        for (int day = 0; day < 7; day++) {
            shut.opening(day, -1);
        }
        Checks.type(shut, "5,n+9,5");
        Checks.dueState("15: no opening for n", shut, () -> shut.windAll());
        shut.clearBuffer();
        Checks.type(shut, "5,-,7");
        Checks.due("15: none is needed", shut.windAll(), 2);
    }

    private static void promise16() {
        VaultMovements x = new VaultMovements();
        Checks.dueState("16: none", x, () -> x.undo());
        for (int i = 1; i <= 8; i++) {
            x.wind(0, i);
            Checks.due("16: saved states", x.count(14), Math.min(i, 6));
        }
        for (int i = 5; i >= 0; i--) {
            Checks.due("16: undo()", x.undo(), i);
            Checks.due("16: the latest first", x.movement(0, 0), i + 2);
        }
        Checks.dueState("16: the oldest two are dropped", x, () -> x.undo());
        Checks.due("16: so they stay", x.movement(0, 0), 2);
        x.wind(0, 8);
        x.lock();
        long before = x.digest();
        x.pass(8);
        x.open();
        Checks.due("16: opened", x.count(9), 1);
        Checks.due("16: on time", x.count(10), 1);
        x.undo();
        Checks.due("16: what is counted is undone", x.count(9), 0);
        Checks.due("16: locked again", x.count(3), 1);
        x.undo();
        Checks.due("16: all is as before", x.digest(), before);
    }

    private static void promise16Buffer() {
        VaultMovements x = new VaultMovements();
        x.wind(0, 5);
        Checks.type(x, "n,n");
        x.undo();
        Checks.due("16: the buffer stays", x.digest(), Checks.digestOf(x, "n,n"));
        Checks.due("16: is as it was", x.clearBuffer(), 3);
        VaultMovements y = Checks.lockedWith(20, 20, 20);
        y.open();
        y.open();
        y.open();
        y.undo();
        Checks.due("16: the waiting too", y.count(7), 0);
        Checks.due("16: the tries too", y.count(6), 2);
        y.drill();
        y.undo();
        Checks.due("16: the due opening too", y.count(5), 8);
        Checks.due("16: undo() saves nothing", y.count(14), 6 - 1);
    }
}
