/** Long runs of calls, the same ones each time, whose answers are compared with the model's. */
public final class ModelTest {
    private static final int RUNS = 4000;
    // Behind its 512th call an object may answer anything.
    private static final int MOST_CALLS = 512;
    private static final int CALLS_OF_A_STEP = 25;
    private static final String[] PIECES = {"n", "n+", "n-", "n+3", "n-2", "n+9", "-", "1", "2", "20", "200", "17", "19", "201",
        "0", "+", ",", ",", ",", "8", "x", "9", "30"};
    private static final String[] KINDS = {"n", "n+2", "n-1", "n-9", "n+9", "-", "1", "8", "24", "99", "200", "n", "12"};

    private long seed;
    private final VaultMovements x = new VaultMovements();
    private final Model model = new Model();
    private String call = "";
    private int calls = 0;
    private long answers = 0;

    private ModelTest(long seed) {
        this.seed = seed;
    }

    public static void main(String[] args) {
        long answers = 0;
        for (int run = 0; run < RUNS; run++) {
            ModelTest test = new ModelTest(run * 7919L + 17);
            for (int i = 0; test.calls + CALLS_OF_A_STEP <= MOST_CALLS; i++) {
                test.step(i, run % 4);
            }
            answers += test.answers;
        }
        System.out.println(answers + " answers were no exceptions");
        Checks.end();
    }

    private int pick(int least, int most) {
        seed = seed * 6364136223846793005L + 1442695040888963407L;
        return least + (int) ((seed >>> 33) % (most - least + 1));
    }

    private boolean rarely() {
        return pick(0, 19) == 0;
    }

    private int number(int least, int most) {
        if (rarely()) {
            int[] wrong = {least - 1, most + 1, -1, Integer.MAX_VALUE, Integer.MIN_VALUE, least, most};
            return wrong[pick(0, 6)];
        }
        return pick(least, most);
    }

    private void step(int at, int style) {
        int what = pick(0, 99);
        if (what < 34) {
            door(what, style);
        } else if (what < 70) {
            parts(what);
        } else if (what < 88) {
            texts(what);
        } else {
            looks();
        }
        if (at % 4 == 3) {
            all();
        }
    }

    private void door(int what, int style) {
        if (what < 8) {
            compare("lock()", x::lock, model::lock);
        } else if (what < 20) {
            compare("open()", x::open, model::open);
        } else if (what < 21) {
            compare("drill()", x::drill, model::drill);
        } else {
            int hours = style == 0 ? number(1, 200) : number(1, style == 1 ? 3 : 12);
            compare("pass(" + hours + ")", () -> x.pass(hours), () -> model.pass(hours));
        }
    }

    private void parts(int what) {
        int m = number(0, 2);
        if (what < 38) {
            int day = number(0, 6);
            int time = number(-1, 23);
            compare("opening(" + day + ", " + time + ")", () -> x.opening(day, time), () -> model.opening(day, time));
        } else if (what < 42) {
            int value = m == 0 ? number(1, 9) : m == 1 ? number(1, 24) : number(10, 60);
            compare("set(" + m + ", " + value + ")", () -> x.set(m, value), () -> model.set(m, value));
        } else if (what < 54) {
            int hours = rarely() ? number(1, 200) : number(1, 25);
            compare("wind(" + m + ", " + hours + ")", () -> x.wind(m, hours), () -> model.wind(m, hours));
        } else if (what < 58) {
            boolean goes = pick(0, 3) > 0;
            compare("fault(" + m + ", " + goes + ")", () -> x.fault(m, goes), () -> model.fault(m, goes));
        } else if (what < 63) {
            int loss = pick(0, 3) == 0 ? number(0, 20) : number(0, 5);
            compare("loss(" + m + ", " + loss + ")", () -> x.loss(m, loss), () -> model.loss(m, loss));
        } else if (what < 66) {
            compare("service(" + m + ")", () -> x.service(m), () -> model.service(m));
        } else {
            compare("undo()", x::undo, model::undo);
        }
    }

    private void texts(int what) {
        if (what < 78) {
            compare("clearBuffer()", x::clearBuffer, model::clearBuffer);
            String text = KINDS[pick(0, KINDS.length - 1)] + "," + KINDS[pick(0, KINDS.length - 1)] + ","
                + KINDS[pick(0, KINDS.length - 1)];
            type(rarely() ? text + PIECES[pick(0, PIECES.length - 1)] : text);
            compare("windAll()", x::windAll, model::windAll);
        } else if (what < 85) {
            type(PIECES[pick(0, PIECES.length - 1)]);
            compare("windAll()", x::windAll, model::windAll);
        } else if (what < 86) {
            compare("clearBuffer()", x::clearBuffer, model::clearBuffer);
        } else {
            int code = number(33, 126);
            compare("append(" + code + ")", () -> x.append(code), () -> model.append(code));
        }
        compare("firstError()", x::firstError, model::firstError);
    }

    private void type(String text) {
        for (int i = 0; i < text.length(); i++) {
            int code = text.charAt(i);
            compare("append(" + code + ")", () -> x.append(code), () -> model.append(code));
        }
    }

    private void looks() {
        int i = number(0, 6);
        int what = number(0, 5);
        int count = number(0, 14);
        compare("movement(" + i + ", " + what + ")", () -> x.movement(i, what), () -> model.movement(i, what));
        compare("day(" + i + ")", () -> x.day(i), () -> model.day(i));
        compare("count(" + count + ")", () -> x.count(count), () -> model.count(count));
        compare("setting(" + i + ")", () -> x.setting(i), () -> model.setting(i));
        compare("rightWinding(" + i + ")", () -> x.rightWinding(i), () -> model.rightWinding(i));
    }

    /** All that can be seen, in one call; if it differs, each look tells what does. */
    private void all() {
        calls++;
        long due = model.digest();
        long got = x.digest();
        Checks.due(call + ": digest()", got, due);
        if (got != due) {
            allLooks();
        }
    }

    private void allLooks() {
        for (int i = 0; i <= 14; i++) {
            int what = i;
            compare("count(" + i + ")", () -> x.count(what), () -> model.count(what));
        }
        for (int i = 0; i < 18; i++) {
            int m = i / 6;
            int what = i % 6;
            compare("movement(" + m + ", " + what + ")", () -> x.movement(m, what), () -> model.movement(m, what));
        }
        for (int i = 0; i < 3; i++) {
            int m = i;
            compare("rightWinding(" + m + ")", () -> x.rightWinding(m), () -> model.rightWinding(m));
            compare("setting(" + m + ")", () -> x.setting(m), () -> model.setting(m));
        }
        for (int i = 0; i < 7; i++) {
            int day = i;
            compare("day(" + day + ")", () -> x.day(day), () -> model.day(day));
        }
        compare("opensIn()", x::opensIn, model::opensIn);
        compare("lateness()", x::lateness, model::lateness);
        compare("keyMovement()", x::keyMovement, model::keyMovement);
        Checks.due(call + ": punctuality()", x.punctuality(), model.punctuality());
    }

    private void compare(String what, Checks.Call got, Checks.Call want) {
        call = what;
        calls++;
        String due;
        try {
            due = Long.toString(want.answer());
            answers++;
        } catch (RuntimeException e) {
            due = e.getClass().getSimpleName();
        }
        String answer;
        try {
            answer = Long.toString(got.answer());
        } catch (RuntimeException e) {
            answer = e.getClass().getSimpleName();
        }
        if (!answer.equals(due)) {
            Checks.fail(what + " answered " + answer + ", the model says " + due);
        }
        Checks.due(what, answer.equals(due) ? 1 : 0, 1);
    }
}
