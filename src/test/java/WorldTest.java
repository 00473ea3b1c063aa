/** Promises 4 (variable), 5 (process: how many, and what it leaves) and 8 (clear). */
public final class WorldTest {
    public static void main(String[] args) {
        addsVariables();
        refusesWrongVariables();
        addsProcesses();
        refusedProcessChangesNothingElse();
        letterNeedsItsVariable();
        clears();
        clearKeepsFault();
        Kit.finish();
    }

    private static void addsVariables() {
        StuckSearch x = new StuckSearch();
        int[][] all = {{2, 1}, {3, 2}, {4, 3}, {5, 4}, {5, 0}};
        for (int i = 0; i < all.length; i++) {
            int[] one = all[i];
            Kit.due("variable", i, () -> x.variable(one[0], one[1]));
        }
        for (int i = 0; i < all.length; i++) {
            int number = i;
            Kit.due("first value of " + i, all[i][1], () -> x.has(number));
        }
        Kit.due("product of sizes", 600, x::product);
        Kit.due("a sixth variable", StuckSearch.NONE, () -> x.variable(2, 0));
        Kit.due("a sixth, wrong variable", Kit.ARGUMENT, () -> x.variable(6, 0));
        Kit.due("the product stays", 600, x::product);
    }

    private static void refusesWrongVariables() {
        StuckSearch x = new StuckSearch();
        int[][] wrong = {{1, 0}, {6, 0}, {0, 0}, {-2, 0}, {2, 2}, {5, 5}, {3, -1},
            {Integer.MAX_VALUE, 0}, {Integer.MIN_VALUE, 0}, {2, Integer.MIN_VALUE}, {2, Integer.MAX_VALUE}};
        for (int[] one : wrong) {
            Kit.due("variable " + one[0] + " " + one[1], Kit.ARGUMENT, () -> x.variable(one[0], one[1]));
        }
        Kit.due("no variable came", Kit.INDEX, () -> x.has(0));
        Kit.due("the next is the first", 0, () -> x.variable(2, 0));
    }

    private static void addsProcesses() {
        StuckSearch x = new StuckSearch();
        Kit.write(x, "..");
        for (int i = 0; i < 6; i++) {
            Kit.due("process", i, x::process);
        }
        x.move(0);
        Kit.due("a seventh process", StuckSearch.NONE, x::process);
        Kit.due("it has left the state", 1, () -> x.now(0));
        Kit.due("and the number", 729, x::product);
        Kit.due("the tape has stayed", 2, x::wipe);
    }

    private static void refusedProcessChangesNothingElse() {
        StuckSearch x = Kit.world("30", "a+a+");
        x.move(0);
        Kit.due("a faulty process", StuckSearch.NONE, () -> Kit.process(x, "a+x"));
        Kit.due("place stays", 1, () -> x.now(0));
        Kit.due("value stays", 1, () -> x.has(0));
        Kit.due("product stays", 9, x::product);
        Kit.due("shape stays", "3 2 1", () -> Kit.shape(x, 0));
        Kit.due("no process came", Kit.INDEX, () -> x.now(1));
        Kit.due("stuck stays", "2/2", () -> Kit.standing(x, 1, 1));
        Kit.due("steps gone stay", 1, x::restart);
        Kit.due("the tape stays", 3, x::wipe);
        Kit.due("the next has the number", 1, () -> Kit.process(x, "a-"));
        Kit.due("and its own shape", "2 1 1", () -> Kit.shape(x, 1));
    }

    private static void letterNeedsItsVariable() {
        StuckSearch x = new StuckSearch();
        Kit.write(x, "e=4");
        for (int i = 0; i < 5; i++) {
            Kit.due("e with " + i + " variables", StuckSearch.NONE, x::process);
            Kit.due("its fault", "1 at 0", () -> x.fault() + " at " + x.faultAt());
            x.variable(5, 1);
        }
        Kit.due("e with 5 variables", 0, x::process);
        x.move(0);
        Kit.due("e has 4", 4, () -> x.has(4));
        Kit.due("d has 1", 1, () -> x.has(3));
    }

    private static void clears() {
        StuckSearch x = Kit.world("54 21", "a-", "b-a-");
        x.move(0);
        x.stuck();
        Kit.due("clear", 2, x::clear);
        Kit.due("no process", Kit.INDEX, () -> x.now(0));
        Kit.due("no such told", Kit.INDEX, () -> x.told(0, 0));
        Kit.due("no variable", Kit.INDEX, () -> x.has(0));
        Kit.due("product", 1, x::product);
        Kit.due("stuck", 1, x::stuck);
        Kit.due("no steps were gone", 0, x::restart);
        Kit.due("clear again", 0, x::clear);
        Kit.due("the tape's letters are none now", StuckSearch.NONE, x::process);
        Kit.due("the tape stays", 4, x::wipe);
        Kit.due("a point needs no variable", 0, () -> Kit.process(x, ".|..|.*|."));
        Kit.due("stuck behind it", "1/ 3/ 5/", () -> Kit.standing(x, 1, 0));
        Kit.due("falls to it", true, x::falls);
        x.move(2);
        Kit.due("or goes on", false, x::falls);
        Kit.due("variables are counted anew", 0, () -> x.variable(2, 1));
        Kit.due("with their values", 1, () -> x.has(0));
    }

    private static void clearKeepsFault() {
        StuckSearch x = new StuckSearch();
        Kit.process(x, "..x");
        x.clear();
        Kit.due("the fault stays", 1, x::fault);
        Kit.due("its place stays", 2, x::faultAt);
    }
}
