/** Promises 15 (moves), 16 (move), 17 (restart), 18 (now) and 19 (has), and the state now. */
public final class MoveTest {
    private static final String ALL_WAYS = "(.|.|.|.|.|.|.|.|.|.|.|.)*";

    public static void main(String[] args) {
        countsPossibleSteps();
        possibleWhereItBeginsIfItsActCanBeDone();
        theFirstState();
        nowOfEachProcess();
        hasOfEachVariable();
        ordersByProcessThenPlace();
        answersProcessAndPlace();
        goesTheStep();
        refusesWrongSteps();
        mostStepsThatCanBe();
        movesBeyondTheLimit();
        restarts();
        restartCountsSinceTheFirstState();
        firstWhenAVariableComes();
        firstWhenAProcessComes();
        firstWhenAllIsCleared();
        staysWhenNothingComes();
        nowOfNoProcess();
        hasOfNoVariable();
        Kit.finish();
    }

    private static void countsPossibleSteps() {
        Kit.says("How many steps are possible now.");
        Kit.due("with no processes", 0, () -> Kit.world("20").moves());
        Kit.due("with a process of no thing", 0, () -> Kit.world("", "").moves());
        Kit.due("with a step that can't be", 0, () -> Kit.world("20", "a-").moves());
        StuckSearch x = Kit.world("20", "a-|.|a+", ".*.|a?1");
        Kit.due("those of both", 4, x::moves);
        x.move(1);
        Kit.due("with a at 1", 3, x::moves);
        x.move(2);
        Kit.due("at both ends", 0, x::moves);
        StuckSearch y = Kit.world("20", "a=1|a=0", "a?1");
        Kit.due("alike steps to two places", 2, y::moves);
        y.move(0);
        Kit.due("one that has become possible", 1, y::moves);
    }

    private static void possibleWhereItBeginsIfItsActCanBeDone() {
        Kit.says("A step to a place is possible in a state if the process is where it begins and the place's act can be"
            + " done; it is there then, and the act is done.");
        StuckSearch x = Kit.world("20", ".a?1a=0", "a+");
        Kit.due("only from where both are", 2, x::moves);
        Kit.due("the first of process 0", 1, () -> x.move(0));
        Kit.due("not its second, whose act can't be done", 1, x::moves);
        Kit.due("that of process 1", 17, () -> x.move(0));
        Kit.due("both acts are done", "1,1/1", () -> Kit.now(x, 2, 1));
        Kit.due("now the second of process 0", 2, () -> x.move(0));
        Kit.due("it is there, a stays", "2,1/1", () -> Kit.now(x, 2, 1));
        Kit.due("the last of process 0", 3, () -> x.move(0));
        Kit.due("it is there, a is 0", "3,1/0", () -> Kit.now(x, 2, 1));
        Kit.due("none is left, though a+ could be done", 0, x::moves);
        StuckSearch y = Kit.world("30", "a+*");
        y.move(0);
        y.move(0);
        Kit.due("a step to where it begins is gone, too", "1/2", () -> Kit.now(y, 1, 1));
    }

    private static void theFirstState() {
        Kit.says("the first one: all 0, and the first values");
        Kit.due("of six and five", "0,0,0,0,0,0/4,0,1,2,3",
            () -> Kit.now(Kit.world("54 20 31 42 53", ".", "..", "", "a+", ".*", "b-|c+"), 6, 5));
        Kit.due("of processes alone", "0,0/", () -> Kit.now(Kit.world("", ".", ""), 2, 0));
        Kit.due("of variables alone", "/1,2", () -> Kit.now(Kit.world("21 32"), 0, 2));
    }

    private static void nowOfEachProcess() {
        Kit.says("The place of a process now.");
        StuckSearch x = Kit.world("", ALL_WAYS, ALL_WAYS, ALL_WAYS, ALL_WAYS, ALL_WAYS, ALL_WAYS);
        for (int p = 0; p < 6; p++) {
            int process = p;
            for (int place : new int[] {1, 12, 7 + p}) {
                x.move(12 * p + place - 1);
                Kit.due("now " + p, place, () -> x.now(process));
            }
        }
        Kit.due("all six", "7,8,9,10,11,12/", () -> Kit.now(x, 6, 0));
    }

    private static void hasOfEachVariable() {
        Kit.says("The value of a variable now.");
        StuckSearch x = Kit.world("54 52 50 51 53", "a=1b=3c=4d=0e=2");
        String[] due = {"1/1,2,0,1,3", "2/1,3,0,1,3", "3/1,3,4,1,3", "4/1,3,4,0,3", "5/1,3,4,0,2"};
        for (String one : due) {
            x.move(0);
            Kit.due("state", one, () -> Kit.now(x, 1, 5));
        }
    }

    private static void ordersByProcessThenPlace() {
        Kit.says("they are ordered by their processes, then by the places to which they go");
        StuckSearch x = Kit.world("20", "a-|.|a+", ".*.|a?1");
        int[] due = {2, 3, 17, 18};
        for (int k = 0; k < due.length; k++) {
            int step = k;
            Kit.due("move " + k, due[k], () -> x.move(step));
            x.restart();
        }
        // Place 1 comes behind place 2 in the text's steps, but not in their order.
        StuckSearch y = Kit.world("", "(..)*.");
        y.move(0);
        y.move(0);
        Kit.due("back before on", 1, () -> y.move(0));
        y.move(0);
        Kit.due("on behind back", 3, () -> y.move(1));
        StuckSearch z = Kit.world("", ".|.|.|.|.|.|.|.|.|.|.|.");
        Kit.due("places as numbers", 2, () -> z.move(1));
        z.restart();
        Kit.due("places as numbers", 10, () -> z.move(9));
    }

    private static void answersProcessAndPlace() {
        Kit.says("Answers 16 times the process, and the place, together.");
        String text = "............";
        StuckSearch x = Kit.world("", text, text, text, text, text, text);
        for (int p = 5; p >= 0; p--) {
            int process = p;
            for (int place = 1; place <= 12; place++) {
                int target = place;
                Kit.due("step of " + p, 16 * p + target, () -> x.move(process));
            }
        }
        Kit.due("all at their ends", Kit.INDEX, () -> x.move(0));
    }

    private static void goesTheStep() {
        Kit.says("The step k of those that are possible now is gone");
        StuckSearch x = Kit.world("30 54", "a+a+b-a=0b!4b?3");
        String[] due = {"1/1,4", "2/2,4", "3/2,3", "4/0,3", "5/0,3", "6/0,3"};
        for (String one : due) {
            x.move(0);
            Kit.due("state", one, () -> Kit.now(x, 1, 2));
        }
        Kit.due("at the end", 0, x::moves);
        StuckSearch y = Kit.world("30", "a+", "a+", "a-");
        y.move(1);
        Kit.due("one process alone", "0,1,0/1", () -> Kit.now(y, 3, 1));
        y.move(1);
        Kit.due("then another", "0,1,1/0", () -> Kit.now(y, 3, 1));
        y.move(0);
        Kit.due("then the last", "1,1,1/1", () -> Kit.now(y, 3, 1));
    }

    private static void refusesWrongSteps() {
        Kit.says("IndexOutOfBoundsException: there is none.");
        StuckSearch x = Kit.world("20", "(a+a-)*", ".", "a-");
        x.move(0);
        Kit.due("moves", 3, x::moves);
        for (int k : Kit.outside(3)) {
            Kit.due("move " + k, Kit.INDEX, () -> x.move(k));
        }
        Kit.due("nothing was gone", "1,0,0/1", () -> Kit.now(x, 3, 1));
        Kit.due("the last there is", 33, () -> x.move(2));
        Kit.due("nothing was counted", 2, x::restart);
        for (int k : Kit.outside(0)) {
            Kit.due("no process: move " + k, Kit.INDEX, () -> Kit.world("20").move(k));
            Kit.due("no thing: move " + k, Kit.INDEX, () -> Kit.world("20", "").move(k));
            Kit.due("no possible step: move " + k, Kit.INDEX, () -> Kit.world("20", "a-").move(k));
        }
        Kit.due("no process: move 0", Kit.INDEX, () -> Kit.world("20").move(0));
        Kit.due("no possible step: move 0", Kit.INDEX, () -> Kit.world("20", "a-").move(0));
    }

    private static void mostStepsThatCanBe() {
        Kit.says("The step k of those that are possible now is gone");
        StuckSearch x = Kit.world("", ALL_WAYS, ALL_WAYS, ALL_WAYS, ALL_WAYS, ALL_WAYS, ALL_WAYS);
        Kit.due("moves", 72, x::moves);
        for (int k = 0; k < 72; k++) {
            int step = k;
            Kit.due("move " + k, 16 * (k / 12) + 1 + k % 12, () -> x.move(step));
        }
        Kit.due("moves", 72, x::moves);
        Kit.due("one too far", Kit.INDEX, () -> x.move(72));
        Kit.due("the last places", "12,12,12,12,12,12/", () -> Kit.now(x, 6, 0));
        Kit.due("steps gone", 72, x::restart);
        StuckSearch y = Kit.world("50", ALL_WAYS, "a+*", ALL_WAYS);
        Kit.due("moves of three", 25, y::moves);
        for (int i = 0; i < 4; i++) {
            Kit.due("the middle one", 17, () -> y.move(12));
        }
        Kit.due("a is at its greatest", 24, y::moves);
        Kit.due("the first of the third", 33, () -> y.move(12));
    }

    private static void movesBeyondTheLimit() {
        Kit.says("The step k of those that are possible now is gone");
        StuckSearch x = Kit.world("50 50 50 50 50", "a+b+", "c=4", "...........e!0");
        Kit.due("product", StuckSearch.MANY, x::product);
        Kit.due("moves", 3, x::moves);
        Kit.due("move", 17, () -> x.move(1));
        Kit.due("move", 1, () -> x.move(0));
        Kit.due("state", "1,1,0/1,0,4,0,0", () -> Kit.now(x, 3, 5));
        Kit.due("moves", 2, x::moves);
        Kit.due("no such move", Kit.INDEX, () -> x.move(2));
        Kit.due("restart", 2, x::restart);
        Kit.due("state", "0,0,0/0,0,0,0,0", () -> Kit.now(x, 3, 5));
    }

    private static void restarts() {
        Kit.says("The state now is the first one.");
        StuckSearch x = Kit.world("32 43", "(a-a+)*", ".", "b=0");
        x.move(0);
        x.move(1);
        x.move(1);
        Kit.due("before", "1,1,1/1,0", () -> Kit.now(x, 3, 2));
        x.restart();
        Kit.due("state", "0,0,0/2,3", () -> Kit.now(x, 3, 2));
        Kit.due("moves", 3, x::moves);
        Kit.due("the processes stay", "3 3 2", () -> Kit.shape(x, 0));
        Kit.due("the tape stays", 3, x::wipe);
    }

    private static void restartCountsSinceTheFirstState() {
        Kit.says("Answers how many steps were gone since it last was.");
        StuckSearch x = Kit.world("32", "(a-a+)*", ".");
        Kit.due("at first", 0, x::restart);
        x.move(0);
        x.move(0);
        x.move(1);
        Kit.answer(() -> x.move(9));
        Kit.due("three steps", 3, x::restart);
        Kit.due("again", 0, x::restart);
        x.move(1);
        Kit.due("one step more", 1, x::restart);
        Kit.due("of a new object", 0, () -> new StuckSearch().restart());
        StuckSearch y = Kit.world("", ".*");
        for (int i = 0; i < 300; i++) {
            y.move(0);
        }
        Kit.due("three hundred", 300, y::restart);
    }

    private static void firstWhenAVariableComes() {
        Kit.says("the first one, when a variable or a process comes, or all is cleared");
        StuckSearch x = Kit.world("32", "a-a-", ".");
        x.move(0);
        x.move(1);
        x.variable(4, 3);
        Kit.due("state", "0,0/2,3", () -> Kit.now(x, 2, 2));
        Kit.due("moves", 2, x::moves);
        Kit.due("no steps since", 0, x::restart);
        x.move(0);
        Kit.due("one step since", 1, x::restart);
    }

    private static void firstWhenAProcessComes() {
        Kit.says("the first one, when a variable or a process comes, or all is cleared");
        for (String text : new String[] {"b-", "", "."}) {
            StuckSearch x = Kit.world("32 43", "a-b-");
            x.move(0);
            x.move(0);
            Kit.process(x, text);
            Kit.due("state", "0,0/2,3", () -> Kit.now(x, 2, 2));
            Kit.due("no steps since", 0, x::restart);
        }
    }

    private static void firstWhenAllIsCleared() {
        Kit.says("the first one, when a variable or a process comes, or all is cleared");
        StuckSearch x = Kit.world("32", "a-a-");
        x.move(0);
        x.clear();
        Kit.due("no steps since", 0, x::restart);
        Kit.due("moves", 0, x::moves);
        x.variable(2, 0);
        Kit.process(x, ".");
        Kit.due("nothing of the old state", "0/0", () -> Kit.now(x, 1, 1));
    }

    private static void staysWhenNothingComes() {
        Kit.says("the first one, when a variable or a process comes, or all is cleared");
        StuckSearch x = Kit.world("32 20 20 20 20", "a-a-");
        x.move(0);
        x.variable(2, 1);
        Kit.due("a variable that did not come", "1/1,0,0,0,0", () -> Kit.now(x, 1, 5));
        Kit.process(x, "y");
        Kit.due("a process that did not come", "1/1,0,0,0,0", () -> Kit.now(x, 1, 5));
        Kit.answer(() -> x.variable(9, 9));
        Kit.answer(() -> x.feed(9, 9));
        x.wipe();
        x.feed(1, 46L);
        x.stuck();
        x.ended();
        x.place(0, 0);
        x.falls();
        Kit.due("questions", "1/1,0,0,0,0", () -> Kit.now(x, 1, 5));
        Kit.due("the steps gone", 1, x::restart);
    }

    private static void nowOfNoProcess() {
        Kit.says("IndexOutOfBoundsException: there is no such process.");
        for (int count : new int[] {0, 1, 2, 6}) {
            StuckSearch x = Kit.world("20 20 20 20 20");
            for (int i = 0; i < count; i++) {
                Kit.process(x, ".");
            }
            for (int process : Kit.outside(count)) {
                Kit.due("now " + process + " of " + count, Kit.INDEX, () -> x.now(process));
            }
            if (count > 0) {
                x.move(count - 1);
                Kit.due("now of the last of " + count, 1, () -> x.now(count - 1));
            }
        }
    }

    private static void hasOfNoVariable() {
        Kit.says("IndexOutOfBoundsException: there is no such variable.");
        for (int count : new int[] {0, 1, 2, 5}) {
            StuckSearch x = Kit.world("", ".", ".", ".", ".", ".", ".");
            for (int i = 0; i < count; i++) {
                x.variable(3, 2);
            }
            for (int variable : Kit.outside(count)) {
                Kit.due("has " + variable + " of " + count, Kit.INDEX, () -> x.has(variable));
            }
            if (count > 0) {
                Kit.due("has of the last of " + count, 2, () -> x.has(count - 1));
            }
        }
    }
}
