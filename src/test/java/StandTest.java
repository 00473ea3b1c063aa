/** Promises 10 (product), 11 (stuck), 12 (ended), 13 (place) and 14 (value). */
public final class StandTest {
    public static void main(String[] args) {
        products();
        standingStates();
        acts();
        knowsOnlyWhatCanBeComeTo();
        followsTheWorld();
        doesNotMove();
        topOfTheLimit();
        aboveTheLimit();
        wrongIndices();
        Kit.finish();
    }

    private static void products() {
        Kit.due("of nothing", 1, () -> Kit.world("").product());
        Kit.due("of a variable", 4, () -> Kit.world("40").product());
        Kit.due("of a process", 3, () -> Kit.world("", "..").product());
        Kit.due("of an empty process", 1, () -> Kit.world("", "").product());
        Kit.due("of both", 5 * 2 * 3 * 4, () -> Kit.world("50 20", "..", "a+b+.").product());
        Kit.due("30000", 30000, () -> Kit.world("50 50 50 50", "...........", "...").product());
        Kit.due("30030", StuckSearch.MANY,
            () -> Kit.world("20 30 50", "......", "..........", "............").product());
        Kit.due("28561", 28561,
            () -> Kit.world("", twelve(), twelve(), twelve(), twelve()).product());
        // 13 to the 6th times 5 to the 5th passes an int; its low 32 bits must not be looked at.
        Kit.due("the greatest", StuckSearch.MANY, () -> greatest().product());
        Kit.due("2 to the 32nd and more", StuckSearch.MANY,
            () -> Kit.world("40 40 40 40 40", "...", "...", "...", "...", "...........", "...........").product());
    }

    private static String twelve() {
        return "............";
    }

    private static StuckSearch greatest() {
        return Kit.world("50 50 50 50 50", twelve(), twelve(), twelve(), twelve(), twelve(), twelve());
    }

    private static void standingStates() {
        check("deadlock", Kit.world("21 21", "(a-b-a+b+)*", "(b-a-b+a+)*"), 2, 2, "1,1/0,0", 0);
        check("no end", Kit.world("21", "(a-a+)*"), 1, 1, "", 0);
        check("one end", Kit.world("", ".."), 1, 0, "2/", 1);
        check("two ends", Kit.world("", ".|.."), 1, 0, "1/ 3/", 2);
        check("a star goes on", Kit.world("", ".*"), 1, 0, "", 0);
        check("first state", Kit.world("32", "a+"), 1, 1, "0/2", 0);
        check("first state that is an end", Kit.world("32", "a+|"), 1, 1, "0/2", 1);
        check("no processes", Kit.world("32 20"), 0, 2, "/2,0", 1);
        check("empty processes", Kit.world("", "", "()"), 2, 0, "0,0/", 1);
        check("values order the last", Kit.world("50", "a=3|a=1", "a=2a=0"), 2, 1,
            "1,2/0 1,2/3 2,2/0 2,2/1", 4);
        check("some at ends", Kit.world("20", "a+|a!1.", "a?1|.a?1"), 2, 1,
            "1,1/1 1,3/1 3,2/0", 2);
    }

    private static void check(String name, StuckSearch x, int processes, int variables, String states, int ended) {
        int count = states.isEmpty() ? 0 : states.split(" ").length;
        Kit.due(name + ": stuck", count, x::stuck);
        Kit.due(name + ": ended", ended, x::ended);
        Kit.due(name + ": states", states, () -> Kit.standing(x, processes, variables));
    }

    /** Each act in each value of a variable of size 3: the value behind it, or - if it can't be. */
    private static void acts() {
        String[][] all = {
            {".", "0 1 2"}, {"a+", "1 2 -"}, {"a-", "- 0 1"}, {"a=0", "0 0 0"}, {"a=2", "2 2 2"},
            {"a?0", "0 - -"}, {"a?1", "- 1 -"}, {"a!0", "- 1 2"}, {"a!2", "0 1 -"},
        };
        for (String[] one : all) {
            String[] behind = one[1].split(" ");
            for (int first = 0; first < 3; first++) {
                String state = behind[first].equals("-") ? "0/" + first : "1/" + behind[first];
                StuckSearch x = Kit.world("3" + first, one[0]);
                Kit.due(one[0] + " at " + first, state, () -> Kit.standing(x, 1, 1));
            }
        }
    }

    private static void knowsOnlyWhatCanBeComeTo() {
        check("a value that can't be", Kit.world("20", "a?1..|."), 1, 1, "4/0", 1);
        check("only together", Kit.world("20", "a?1.", "a+"), 2, 1, "2,1/1", 1);
    }

    private static void followsTheWorld() {
        StuckSearch x = Kit.world("20", "a+a-");
        Kit.due("one process", "2/0", () -> Kit.standing(x, 1, 1));
        Kit.due("at its end", 1, x::ended);
        Kit.process(x, "a-");
        Kit.due("two processes", "1,1/0 2,0/0", () -> Kit.standing(x, 2, 1));
        Kit.due("never both at their ends", 0, x::ended);
        Kit.process(x, "x");
        Kit.due("a fault between", "1,1/0 2,0/0", () -> Kit.standing(x, 2, 1));
        x.variable(3, 1);
        Kit.due("two variables", "1,1/0,1 2,0/0,1", () -> Kit.standing(x, 2, 2));
        Kit.process(x, "");
        Kit.due("three processes", "1,1,0/0,1 2,0,0/0,1", () -> Kit.standing(x, 3, 2));
        x.clear();
        Kit.due("none", "/", () -> Kit.standing(x, 0, 0));
    }

    private static void doesNotMove() {
        StuckSearch x = Kit.world("30", "a+a+", "a?1a-");
        x.move(0);
        String before = now(x);
        Kit.due("stuck from the first state", "2,0/2 2,2/1", () -> Kit.standing(x, 2, 1));
        Kit.due("the state now stays", before, () -> now(x));
        x.restart();
        Kit.due("and changes no answer", "2,0/2 2,2/1", () -> Kit.standing(x, 2, 1));
    }

    private static String now(StuckSearch x) {
        return x.now(0) + " " + x.now(1) + " " + x.has(0) + " " + x.moves();
    }

    private static void topOfTheLimit() {
        StuckSearch x = Kit.world("50 50 50 50", "a=4b=4c=4d=4.......", "...");
        Kit.due("30000", 30000, x::product);
        Kit.due("its last state", "11,3/4,4,4,4", () -> Kit.standing(x, 2, 4));
        Kit.due("is at ends", 1, x::ended);
        Kit.due("can be come to", true, x::falls);
        StuckSearch y = Kit.world("", twelve(), twelve(), twelve(), twelve());
        Kit.due("28561: last state", "12,12,12,12/", () -> Kit.standing(y, 4, 0));
    }

    private static void aboveTheLimit() {
        StuckSearch x = Kit.world("20 30 50", "......", "..........", "............");
        x.move(0);
        Kit.due("stuck", StuckSearch.MANY, x::stuck);
        Kit.due("ended", StuckSearch.MANY, x::ended);
        Kit.due("place", Kit.STATE, () -> x.place(0, 0));
        Kit.due("place of none", Kit.STATE, () -> x.place(-1, 9));
        Kit.due("value", Kit.STATE, () -> x.value(0, 0));
        Kit.due("value of none", Kit.STATE, () -> x.value(-1, 9));
        Kit.due("falls", Kit.STATE, x::falls);
        Kit.due("told goes on", "13 12 1", () -> Kit.shape(x, 2));
        Kit.due("the state stays", 1, () -> x.now(0));
        Kit.due("steps can be gone", 16 * 2 + 1, () -> x.move(2));
        Kit.due("and are counted", 2, x::restart);
        x.clear();
        Kit.due("below it again", 1, x::stuck);
    }

    private static void wrongIndices() {
        StuckSearch x = Kit.world("20", ".|.", "");
        int[] none = {2, -1, Integer.MAX_VALUE, Integer.MIN_VALUE};
        for (int k : none) {
            Kit.due("place of state " + k, Kit.INDEX, () -> x.place(k, 0));
            Kit.due("value of state " + k, Kit.INDEX, () -> x.value(k, 0));
            Kit.due("place of process " + k, Kit.INDEX, () -> x.place(0, k));
            Kit.due("value of variable " + k, Kit.INDEX, () -> x.value(0, k));
        }
        Kit.due("value of variable 1", Kit.INDEX, () -> x.value(0, 1));
        Kit.due("the last state", 2, () -> x.place(1, 0));
        Kit.due("the last process", 0, () -> x.place(1, 1));
        StuckSearch y = Kit.world("20", ".*");
        Kit.due("no state at all", Kit.INDEX, () -> y.place(0, 0));
        Kit.due("nor value", Kit.INDEX, () -> y.value(0, 0));
    }
}
