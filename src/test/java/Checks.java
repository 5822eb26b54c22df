/** Compares answers with those that are due, and ends a test with exit code 1 if one was wrong. */
final class Checks {
    interface Call {
        long answer();
    }

    private static int wrong = 0;
    private static int done = 0;

    private Checks() {
    }

    static void due(String what, long got, long want) {
        done++;
        if (got != want) {
            fail(what + " answered " + got + ", due is " + want);
        }
    }

    static void due(String what, double got, double want) {
        due(what, Double.doubleToLongBits(got), Double.doubleToLongBits(want));
    }

    static void expect(String what, boolean right) {
        done++;
        if (!right) {
            fail("not so: " + what);
        }
    }

    static void fail(String text) {
        wrong++;
        if (wrong <= 40) {
            System.out.println(text);
        }
    }

    /** The call throws exactly this exception, by a throw of the program's own, and changes nothing. */
    static void dueThrow(String what, VaultMovements x, Class<? extends RuntimeException> want, Call call) {
        done++;
        long before = x.digest();
        try {
            long got = call.answer();
            fail(what + " answered " + got + ", due is " + want.getSimpleName());
        } catch (RuntimeException e) {
            if (e.getClass() != want) {
                fail(what + " threw " + e + ", due is " + want.getSimpleName());
            }
            if (!isThrownByTheProgram(e)) {
                fail(what + " was not thrown by the program itself: " + e);
            }
        }
        due(what + ": the digest after it", x.digest(), before);
    }

    /** False for an exception of the Java library, such as an ArrayList's for an index that it does not have. */
    static boolean isThrownByTheProgram(RuntimeException e) {
        StackTraceElement[] trace = e.getStackTrace();
        return trace.length > 0 && trace[0].getClassName().startsWith("VaultMovements");
    }

    static void dueIndex(String what, VaultMovements x, Call call) {
        dueThrow(what, x, IndexOutOfBoundsException.class, call);
    }

    static void dueArgument(String what, VaultMovements x, Call call) {
        dueThrow(what, x, IllegalArgumentException.class, call);
    }

    static void dueState(String what, VaultMovements x, Call call) {
        dueThrow(what, x, IllegalStateException.class, call);
    }

    static void type(VaultMovements x, String text) {
        for (int i = 0; i < text.length(); i++) {
            x.append(text.charAt(i));
        }
    }

    /** Winds a movement and locks the door. */
    static VaultMovements lockedWith(int first, int second, int third) {
        VaultMovements x = new VaultMovements();
        int[] hours = {first, second, third};
        for (int i = 0; i < 3; i++) {
            if (hours[i] > 0) {
                x.wind(i, hours[i]);
            }
        }
        x.lock();
        return x;
    }

    /** The digest as promise 26 tells it, from the other answers of the face and the buffer's text. */
    static long digestOf(VaultMovements x, String buffer) {
        long hash = 2699;
        for (int i = 0; i <= 14; i++) {
            hash = 31 * hash + x.count(i);
        }
        for (int i = 0; i <= 2; i++) {
            hash = 31 * hash + x.setting(i);
        }
        for (int i = 0; i <= 6; i++) {
            hash = 31 * hash + x.day(i);
        }
        for (int i = 0; i <= 2; i++) {
            for (int what = 0; what <= 5; what++) {
                hash = 31 * hash + x.movement(i, what);
            }
            hash = 31 * hash + x.rightWinding(i);
        }
        hash = 31 * hash + x.opensIn();
        hash = 31 * hash + x.lateness();
        hash = 31 * hash + x.keyMovement();
        hash = 31 * hash + Double.doubleToLongBits(x.punctuality());
        hash = 31 * hash + buffer.length();
        for (int i = 0; i < buffer.length(); i++) {
            hash = 31 * hash + buffer.charAt(i);
        }
        return hash;
    }

    static void end() {
        System.out.println(done + " checks, " + wrong + " wrong");
        if (wrong != 0 || done == 0) {
            System.exit(1);
        }
    }
}
