import java.util.ArrayList;
import java.util.List;

/**
 * "Methods throw what their comments name, the one named first when several would do; a call that
 * throws, or answers NONE or MANY, changes nothing (but for process())." Two objects are used alike,
 * but one of them meets a refused call, too: then nothing that can be seen of them may differ.
 */
public final class RefuseTest {
    public static void main(String[] args) {
        theOneNamedFirst();
        refusedByEveryObject();
        refusedByAnObjectWithProcesses();
        refusedByAFullObject();
        refusedBeyondTheLimit();
        refusedTextChangesOnlyTheFault();
        questionsChangeNothing();
        Kit.finish();
    }

    private interface Script {
        void play(StuckSearch x);
    }

    private interface Question {
        Object ask(StuckSearch x);
    }

    private static final Script FRESH = x -> { };

    private static final Script USED = x -> {
        x.variable(3, 1);
        x.variable(2, 0);
        Kit.process(x, "(a+b+|a-)*b-.");
        Kit.process(x, "a!1|.a-");
        Kit.write(x, "b+(a=2|.)*");
        x.move(0);
        x.move(0);
    };

    private static final Script ASKED = x -> {
        USED.play(x);
        x.stuck();
        x.falls();
    };

    private static final Script FAULTY = x -> {
        ASKED.play(x);
        Kit.process(x, "a+(b=1.x");
    };

    private static final Script FULL = x -> {
        for (int i = 0; i < 5; i++) {
            x.variable(2, i % 2);
        }
        String[] texts = {"a+", "b-", "c+|d-", "e+", ".", "a-"};
        for (String text : texts) {
            Kit.process(x, text);
        }
        Kit.write(x, "|".repeat(99) + ".");
        x.move(0);
        x.move(2);
    };

    private static final Script FULL_FAULTY = x -> {
        FULL.play(x);
        Kit.write(x, "|".repeat(99) + "(");
    };

    private static final Script MANY = x -> {
        x.variable(5, 4);
        x.variable(5, 0);
        x.variable(5, 1);
        Kit.process(x, "............");
        Kit.process(x, "a-b+|c!1.........");
        Kit.process(x, "(a-b+)*");
        Kit.write(x, ".");
        x.move(0);
        x.move(2);
    };

    private static void theOneNamedFirst() {
        Kit.says("Methods throw what their comments name, the one named first when several would do");
        StuckSearch x = Kit.world("", ".");
        Kit.due("told, both wrong", Kit.INDEX, () -> x.told(1, 3));
        Kit.due("told, both wrong", Kit.INDEX, () -> x.told(-1, -1));
        StuckSearch y = new StuckSearch();
        MANY.play(y);
        Kit.due("place, all wrong", Kit.STATE, () -> y.place(-1, -1));
        Kit.due("place, the process wrong", Kit.STATE, () -> y.place(0, 3));
        Kit.due("value, all wrong", Kit.STATE, () -> y.value(-1, -1));
        Kit.due("value, the variable wrong", Kit.STATE, () -> y.value(0, 3));
        StuckSearch z = new StuckSearch();
        FULL.play(z);
        Kit.due("feed, n wrong and the tape full", Kit.ARGUMENT, () -> z.feed(0, 0L));
        Kit.due("variable, the size wrong and 5 there", Kit.ARGUMENT, () -> z.variable(1, 0));
    }

    private static void refusedByEveryObject() {
        Kit.says("a call that throws, or answers NONE or MANY, changes nothing");
        Script[] all = {FRESH, USED, ASKED, FAULTY, FULL, FULL_FAULTY, MANY};
        for (Script script : all) {
            for (int n : new int[] {0, 9, -1}) {
                unchanged("feed " + n, script, Kit.ARGUMENT, x -> x.feed(n, 0x2E2E2E2E2E2E2E2EL));
            }
            unchanged("variable 1 0", script, Kit.ARGUMENT, x -> x.variable(1, 0));
            unchanged("variable 6 0", script, Kit.ARGUMENT, x -> x.variable(6, 0));
            unchanged("variable 2 2", script, Kit.ARGUMENT, x -> x.variable(2, 2));
            unchanged("variable 2 -1", script, Kit.ARGUMENT, x -> x.variable(2, -1));
            for (int i : Kit.outside(6)) {
                unchanged("told " + i, script, Kit.INDEX, x -> x.told(i, 0));
                unchanged("now " + i, script, Kit.INDEX, x -> x.now(i));
                unchanged("has " + i, script, Kit.INDEX, x -> x.has(i));
            }
            unchanged("move -1", script, Kit.INDEX, x -> x.move(-1));
            unchanged("move behind the last", script, Kit.INDEX, x -> x.move(x.moves()));
        }
    }

    private static void refusedByAnObjectWithProcesses() {
        Kit.says("a call that throws, or answers NONE or MANY, changes nothing");
        for (Script script : new Script[] {USED, ASKED, FAULTY, FULL}) {
            for (int i : Kit.outside(3)) {
                unchanged("told 0 " + i, script, Kit.ARGUMENT, x -> x.told(0, i));
            }
            for (int i : Kit.outside(6)) {
                unchanged("place 0 " + i, script, Kit.INDEX, x -> x.place(0, i));
                unchanged("value 0 " + i, script, Kit.INDEX, x -> x.value(0, i));
            }
            unchanged("place -1 0", script, Kit.INDEX, x -> x.place(-1, 0));
            unchanged("value -1 0", script, Kit.INDEX, x -> x.value(-1, 0));
            unchanged("place behind the last", script, Kit.INDEX, x -> x.place(x.stuck(), 0));
            unchanged("value behind the last", script, Kit.INDEX, x -> x.value(x.stuck(), 0));
        }
    }

    private static void refusedByAFullObject() {
        Kit.says("a call that throws, or answers NONE or MANY, changes nothing");
        for (Script script : new Script[] {FULL, FULL_FAULTY}) {
            unchanged("feed 1", script, StuckSearch.NONE, x -> x.feed(1, 46L));
            unchanged("feed 8", script, StuckSearch.NONE, x -> x.feed(8, 0x2E2E2E2E2E2E2E2EL));
            unchanged("variable", script, StuckSearch.NONE, x -> x.variable(3, 2));
            unchanged("process", script, StuckSearch.NONE, x -> x.process());
        }
        Script nearly = x -> {
            USED.play(x);
            Kit.write(x, "|".repeat(93));
        };
        unchanged("feed 8 behind 93", nearly, StuckSearch.NONE, x -> x.feed(8, 0x2E2E2E2E2E2E2E2EL));
    }

    private static void refusedBeyondTheLimit() {
        Kit.says("a call that throws, or answers NONE or MANY, changes nothing");
        unchanged("product", MANY, StuckSearch.MANY, x -> x.product());
        unchanged("stuck", MANY, StuckSearch.MANY, x -> x.stuck());
        unchanged("ended", MANY, StuckSearch.MANY, x -> x.ended());
        unchanged("place", MANY, Kit.STATE, x -> x.place(0, 0));
        unchanged("value", MANY, Kit.STATE, x -> x.value(0, 0));
        unchanged("falls", MANY, Kit.STATE, x -> x.falls());
    }

    private static void refusedTextChangesOnlyTheFault() {
        Kit.says("but for process()");
        String[] faulty = {"x", ".............", "(((((((((((((", "a+b+(.|", "............(", "a="};
        String[] faults = {"1 at 0", "2 at 12", "3 at 12", "1 at 7", "1 at 13", "1 at 2"};
        for (Script script : new Script[] {USED, ASKED, FAULTY, MANY}) {
            for (int i = 0; i < faulty.length; i++) {
                String text = faulty[i];
                Script told = x -> {
                    script.play(x);
                    Kit.write(x, text);
                };
                StuckSearch met = new StuckSearch();
                told.play(met);
                Kit.due("process of " + text, StuckSearch.NONE, met::process);
                Kit.due("fault of " + text, faults[i], () -> Kit.fault(met));
                StuckSearch other = new StuckSearch();
                told.play(other);
                Kit.due("all else behind " + text, lookWhole(other), () -> lookWhole(met));
            }
        }
    }

    private static void questionsChangeNothing() {
        Kit.says("There is a state in which the steps stand NOW: the first one, when a variable or a process comes,"
            + " or all is cleared.");
        for (Script script : new Script[] {FRESH, USED, FAULTY, FULL, MANY}) {
            StuckSearch asked = new StuckSearch();
            script.play(asked);
            lookOn(asked);
            StuckSearch other = new StuckSearch();
            script.play(other);
            Kit.due("all behind questions", Kit.fault(other) + lookWhole(other), () -> Kit.fault(asked) + lookWhole(asked));
        }
    }

    private static void unchanged(String what, Script script, Object want, Question refused) {
        StuckSearch met = new StuckSearch();
        script.play(met);
        Kit.due(what, want, () -> refused.ask(met));
        StuckSearch other = new StuckSearch();
        script.play(other);
        Kit.due("all behind " + what, Kit.fault(other) + lookWhole(other), () -> Kit.fault(met) + lookWhole(met));
    }

    /** All that can be seen but the fault: now, at the first state, and of the tape; this clears it. */
    private static String lookWhole(StuckSearch x) {
        List<String> seen = new ArrayList<>(lookOn(x));
        seen.add("restart " + x.restart());
        seen.add("moves " + x.moves());
        seen.add("clear " + x.clear());
        for (int v = 0; v < 5; v++) {
            seen.add("variable " + x.variable(5, 3));
        }
        seen.add("process " + x.process());
        seen.add("fault " + Kit.fault(x));
        seen.addAll(lookOn(x));
        seen.add("wipe " + x.wipe());
        return seen.toString();
    }

    /** All that questions answer. */
    private static List<String> lookOn(StuckSearch x) {
        List<String> seen = new ArrayList<>();
        seen.add("product " + x.product() + " stuck " + x.stuck() + " ended " + x.ended() + " moves " + x.moves());
        seen.add("falls " + Kit.answer(x::falls));
        int last = Math.max(0, x.stuck() - 1);
        for (int i = 0; i < 6; i++) {
            int number = i;
            seen.add(Kit.answer(() -> Kit.shape(x, number)) + " at " + Kit.answer(() -> x.now(number)));
            seen.add("has " + Kit.answer(() -> x.has(number)));
            for (int k : new int[] {0, 1, last}) {
                seen.add(Kit.answer(() -> x.place(k, number)) + " with " + Kit.answer(() -> x.value(k, number)));
            }
        }
        return seen;
    }
}
