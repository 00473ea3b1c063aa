/** Promises 15 (moves), 16 (move), 17 (restart), 18 (now) and 19 (has). */
public final class MoveTest {
    public static void main(String[] args) {
        goesInOrder();
        doesActs();
        refusesWrongSteps();
        restarts();
        isFirstWhenSomethingComes();
        staysWhenNothingComes();
        manySteps();
        wrongIndices();
        Kit.finish();
    }

    private static void goesInOrder() {
        StuckSearch x = Kit.world("20", "a-|.|a+", ".*.|a?1");
        Kit.due("moves", 4, x::moves);
        int[] due = {2, 3, 17, 18};
        for (int k = 0; k < due.length; k++) {
            int step = k;
            Kit.due("move " + k, due[k], () -> x.move(step));
            Kit.due("restart", 1, x::restart);
        }
        x.move(1);
        Kit.due("with a at 1", 3, x::moves);
        Kit.due("the third is open", 16 + 3, () -> x.move(2));
        Kit.due("no more steps", 0, x::moves);
    }

    private static void doesActs() {
        StuckSearch x = Kit.world("30 54", "a+a+b-a=0b!4b?3");
        String[] due = {"1 1,4", "2 2,4", "3 2,3", "4 0,3", "5 0,3", "6 0,3"};
        for (String one : due) {
            x.move(0);
            Kit.due("state", one, () -> x.now(0) + " " + x.has(0) + "," + x.has(1));
        }
        Kit.due("at the end", 0, x::moves);
        x.restart();
        Kit.due("first again", "0 0,4", () -> x.now(0) + " " + x.has(0) + "," + x.has(1));
    }

    private static void refusesWrongSteps() {
        StuckSearch x = Kit.world("20", "(a+a-)*", ".");
        x.move(0);
        for (int k : new int[] {2, 3, -1, Integer.MAX_VALUE, Integer.MIN_VALUE}) {
            Kit.due("move " + k, Kit.INDEX, () -> x.move(k));
        }
        Kit.due("nothing was gone", "1 0 1", () -> x.now(0) + " " + x.now(1) + " " + x.has(0));
        Kit.due("nor counted", 1, x::restart);
        StuckSearch y = Kit.world("20", "a-");
        Kit.due("a step that is not possible", Kit.INDEX, () -> y.move(0));
        Kit.due("no process", Kit.INDEX, () -> Kit.world("20").move(0));
    }

    private static void restarts() {
        StuckSearch x = Kit.world("32", "(a-a+)*", ".");
        Kit.due("restart at first", 0, x::restart);
        x.move(0);
        x.move(0);
        x.move(1);
        Kit.due("restart", 3, x::restart);
        Kit.due("restart again", 0, x::restart);
        Kit.due("state", "0 0 2", () -> x.now(0) + " " + x.now(1) + " " + x.has(0));
        Kit.due("moves", 2, x::moves);
        Kit.due("the processes stay", "3 3 2", () -> Kit.shape(x, 0));
    }

    private static void isFirstWhenSomethingComes() {
        StuckSearch x = Kit.world("32", "a-a-");
        x.move(0);
        x.variable(4, 3);
        Kit.due("a variable came", "0 2,3", () -> x.now(0) + " " + x.has(0) + "," + x.has(1));
        Kit.due("no steps since", 0, x::restart);
        x.move(0);
        Kit.process(x, "b-");
        Kit.due("a process came", "0,0 2,3", () -> x.now(0) + "," + x.now(1) + " " + x.has(0) + "," + x.has(1));
        Kit.due("no steps since", 0, x::restart);
        x.move(0);
        x.clear();
        Kit.due("cleared", 0, x::restart);
        Kit.due("no steps", 0, x::moves);
    }

    private static void staysWhenNothingComes() {
        StuckSearch x = Kit.world("32 20 20 20 20", "a-a-");
        x.move(0);
        x.variable(2, 1);
        Kit.process(x, "y");
        Kit.answer(() -> x.variable(9, 9));
        Kit.answer(() -> x.feed(9, 9));
        x.wipe();
        x.stuck();
        x.falls();
        Kit.due("the state now", "1 1", () -> x.now(0) + " " + x.has(0));
        Kit.due("the steps gone", 1, x::restart);
    }

    private static void manySteps() {
        StuckSearch x = Kit.world("50", "(.|.|.|.|.|.|.|.|.|.|.|.)*", "a+*", "(.|.|.|.|.|.|.|.|.|.|.|.)*");
        Kit.due("moves", 25, x::moves);
        Kit.due("the last", 16 * 2 + 12, () -> x.move(24));
        for (int i = 0; i < 4; i++) {
            Kit.due("the middle", 17, () -> x.move(12));
        }
        Kit.due("a is full", 24, x::moves);
        Kit.due("the first of the third", 16 * 2 + 1, () -> x.move(12));
        Kit.due("steps gone", 6, x::restart);
    }

    private static void wrongIndices() {
        StuckSearch x = Kit.world("20 31", ".", ".");
        for (int i : new int[] {2, -1, 5, 6, Integer.MAX_VALUE, Integer.MIN_VALUE}) {
            Kit.due("now " + i, Kit.INDEX, () -> x.now(i));
            Kit.due("has " + i, Kit.INDEX, () -> x.has(i));
        }
        Kit.due("the last process", 0, () -> x.now(1));
        Kit.due("the last variable", 1, () -> x.has(1));
    }
}
