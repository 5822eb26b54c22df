import java.lang.reflect.InvocationTargetException;
import java.lang.reflect.Method;
import java.lang.reflect.Modifier;
import java.util.LinkedHashMap;
import java.util.Map;

/**
 * Runs the cases of a test: each is a method without arguments that is named after the promise (or the terms ahead of
 * the promises) and the one boundary that it is about, and says by its name which sentence is broken if it fails.
 */
final class Cases {
    interface Making {
        VaultMovements make();
    }

    interface Call {
        long on(VaultMovements x);
    }

    private static final String NAME = "(promise([1-9]|1[0-9]|2[0-6])|terms)_[a-z0-9]\\w+";
    private static final int ALL_UNDOS = 6;
    private static String name = "";
    private static int wrong = 0;

    private Cases() {
    }

    /** Runs every case of a test, and ends with exit code 1 if one failed. */
    static void runAll(Class<?> test) {
        int ran = 0;
        int failed = 0;
        for (Method m : test.getDeclaredMethods()) {
            if (isCase(m)) {
                ran++;
                failed += runs(m) ? 0 : 1;
            }
        }
        System.out.println(ran + " cases, " + failed + " failed");
        if (failed != 0 || ran == 0) {
            System.exit(1);
        }
    }

    /** Helpers are private, or take or return something; so a case with a slip in its name is not passed over. */
    private static boolean isCase(Method m) {
        return !m.isSynthetic() && !Modifier.isPrivate(m.getModifiers()) && m.getParameterCount() == 0
            && m.getReturnType() == void.class;
    }

    private static boolean runs(Method m) {
        name = m.getName();
        wrong = 0;
        if (!name.matches(NAME)) {
            fail("is no name of a case");
        }
        try {
            m.invoke(null);
        } catch (InvocationTargetException e) {
            fail("was ended by " + e.getCause());
        } catch (IllegalAccessException e) {
            fail("cannot be called: " + e);
        }
        return wrong == 0;
    }

    private static void fail(String text) {
        wrong++;
        if (wrong <= 5) {
            System.out.println(name + ": " + text);
        }
    }

    static void due(String call, long got, long want) {
        if (got != want) {
            fail(call + " answered " + got + ", due is " + want);
        }
    }

    static void dueShare(String call, double got, double want) {
        if (Double.doubleToLongBits(got) != Double.doubleToLongBits(want)) {
            fail(call + " answered " + got + ", due is " + want);
        }
    }

    /** The call is refused in a new clock, and in two with a past. */
    static void refusedAlways(Class<? extends RuntimeException> want, String call, Call refused) {
        refused(want, call, refused, VaultMovements::new);
        refused(want, call, refused, Clocks::busyOpen);
        refused(want, call, refused, Clocks::busyLocked);
    }

    static void refused(Class<? extends RuntimeException> want, String call, Call refused, Making making) {
        refused(want, call, refused, making, ALL_UNDOS);
    }

    /** The call throws exactly this exception, and a twin that has not heard of the call cannot be told apart. */
    static void refused(Class<? extends RuntimeException> want, String call, Call refused, Making making, int undos) {
        VaultMovements x = making.make();
        try {
            fail(call + " answered " + refused.on(x) + ", due is " + want.getSimpleName());
        } catch (RuntimeException e) {
            if (e.getClass() != want) {
                fail(call + " threw " + e + ", due is " + want.getSimpleName());
            }
            if (!Checks.isThrownByTheProgram(e)) {
                fail(call + " did not throw " + e + " itself");
            }
        }
        same("behind " + call, x, making.make(), undos);
    }

    static void index(String call, Call refused) {
        refusedAlways(IndexOutOfBoundsException.class, call, refused);
    }

    static void argument(String call, Call refused) {
        refusedAlways(IllegalArgumentException.class, call, refused);
    }

    static void argument(String call, Call refused, Making making) {
        refused(IllegalArgumentException.class, call, refused, making);
    }

    static void state(String call, Call refused, Making making) {
        refused(IllegalStateException.class, call, refused, making);
    }

    /** Two clocks answer the same, now and behind each undo. Compares in some 20 calls, as no clock has more than 512. */
    static void same(String when, VaultMovements x, VaultMovements twin, int undos) {
        due("digest() " + when, x.digest(), twin.digest());
        due("firstError() " + when, x.firstError(), twin.firstError());
        int saved = Math.min(twin.count(14), undos);
        for (int i = 1; i <= saved && wrong == 0; i++) {
            due("undo() " + i + " " + when, x.undo(), twin.undo());
            due("digest() behind undo() " + i + " " + when, x.digest(), twin.digest());
        }
    }

    /** Every look at a clock, but the number of its saved states, by its name: some 50 calls. */
    private static Map<String, Long> looks(VaultMovements x) {
        Map<String, Long> looks = new LinkedHashMap<>();
        for (int what = 0; what <= 13; what++) {
            looks.put("count(" + what + ")", (long) x.count(what));
        }
        for (int i = 0; i <= 2; i++) {
            looks.put("setting(" + i + ")", (long) x.setting(i));
            for (int what = 0; what <= 5; what++) {
                looks.put("movement(" + i + ", " + what + ")", (long) x.movement(i, what));
            }
            looks.put("rightWinding(" + i + ")", (long) x.rightWinding(i));
        }
        for (int day = 0; day <= 6; day++) {
            looks.put("day(" + day + ")", (long) x.day(day));
        }
        looks.put("opensIn()", (long) x.opensIn());
        looks.put("lateness()", (long) x.lateness());
        looks.put("keyMovement()", (long) x.keyMovement());
        looks.put("punctuality()", Double.doubleToLongBits(x.punctuality()));
        return looks;
    }

    /** The clock answers each look as the other one does, but for those that begin with one of these names. */
    static void sameLooks(String when, VaultMovements x, VaultMovements other, String... changed) {
        Map<String, Long> due = looks(other);
        for (Map.Entry<String, Long> look : looks(x).entrySet()) {
            boolean mayDiffer = false;
            for (String name : changed) {
                mayDiffer |= look.getKey().startsWith(name);
            }
            if (!mayDiffer) {
                due(look.getKey() + " " + when, look.getValue(), due.get(look.getKey()));
            }
        }
    }

    /** The call changes none of the looks but these. */
    static void changesOnly(String call, Call done, Making making, String... changed) {
        VaultMovements x = making.make();
        done.on(x);
        sameLooks("behind " + call, x, making.make(), changed);
    }

    /** The call saves one state, and undo() brings back all that was before it; the one before that lies under it. */
    static void undoable(String call, Call done, Making making) {
        VaultMovements x = making.make();
        VaultMovements twin = making.make();
        int saved = x.count(14);
        done.on(x);
        due("saved states behind " + call, x.count(14), Math.min(saved + 1, 6));
        due("undo() behind " + call, x.undo(), Math.min(saved, 5));
        sameLooks("behind " + call + " and undo()", x, twin);
        twin.fault(0, true);
        twin.undo();
        x.clearBuffer();
        twin.clearBuffer();
        same("behind " + call + " and undo()", x, twin, ALL_UNDOS);
    }

    /** The call saves nothing, and changes nothing but the buffer. */
    static void notUndoable(String call, Call done, Making making) {
        VaultMovements x = making.make();
        VaultMovements twin = making.make();
        done.on(x);
        x.clearBuffer();
        twin.clearBuffer();
        same("behind " + call, x, twin, ALL_UNDOS);
    }
}
