/** Promise 20 (falls). */
public final class FallsTest {
    public static void main(String[] args) {
        standing();
        canBeComeTo();
        eachActDecides();
        otherVariablesDecide();
        withAllThatCanBe();
        neverFalls();
        followsTheWorld();
        atTheLimit();
        beyondTheLimit();
        Kit.finish();
    }

    private static void standing() {
        Kit.says("Whether the state now is one of the stuck ones");
        Kit.due("a new object", true, () -> new StuckSearch().falls());
        Kit.due("no processes", true, () -> Kit.world("54").falls());
        Kit.due("no thing", true, () -> Kit.world("", "").falls());
        Kit.due("a first state that is stuck", true, () -> Kit.world("20", "a-").falls());
        StuckSearch x = Kit.world("21 21", "(a-b-a+b+)*", "(b-a-b+a+)*");
        x.move(0);
        x.move(1);
        Kit.due("none can go on", 0, x::moves);
        Kit.due("both hold one", true, x::falls);
        StuckSearch y = Kit.world("", ".|.*");
        y.move(0);
        Kit.due("at an end", true, y::falls);
    }

    private static void canBeComeTo() {
        Kit.says("or one of them can be come to from it");
        StuckSearch x = Kit.world("", "..|.*");
        Kit.due("one way stands", true, x::falls);
        x.move(1);
        Kit.due("the other doesn't", false, x::falls);
        x.move(0);
        Kit.due("nor later", false, x::falls);
        x.restart();
        Kit.due("again at first", true, x::falls);
        x.move(0);
        Kit.due("on the way", true, x::falls);
        x.move(0);
        Kit.due("there", true, x::falls);
        Kit.due("falls doesn't move", 2, x::restart);
        StuckSearch y = Kit.world("21 21", "(a-b-a+b+)*", "(b-a-b+a+)*");
        Kit.due("two that can wait for each other", true, y::falls);
        y.move(0);
        y.move(0);
        Kit.due("from everywhere", true, y::falls);
        StuckSearch z = Kit.world("", "............", "............");
        Kit.due("far away", true, z::falls);
    }

    /** The last act alone decides whether the loop before it can be left. */
    private static void eachActDecides() {
        Kit.says("or one of them can be come to from it");
        String[][] gates = {
            {".", "111"}, {"a+", "110"}, {"a-", "011"}, {"a=1", "111"}, {"a?1", "010"}, {"a!1", "101"},
        };
        for (String[] gate : gates) {
            StuckSearch x = Kit.world("30", "(a=0|a=1|a=2).*" + gate[0]);
            for (int value = 0; value < 3; value++) {
                boolean open = gate[1].charAt(value) == '1';
                x.restart();
                x.move(value);
                Kit.due(gate[0] + " with " + value, open, x::falls);
                x.move(0);
                Kit.due(gate[0] + " with " + value + " and a step on", open, x::falls);
            }
        }
    }

    /** The stuck state differs in a, which is no matter of the act on b before it. */
    private static void otherVariablesDecide() {
        Kit.says("or one of them can be come to from it");
        for (int first = 0; first < 3; first++) {
            for (String act : new String[] {"b=0", "b=2", "(b+|b-)", "."}) {
                StuckSearch x = Kit.world("20 3" + first, "(.|a=1)" + act + "a?1*");
                x.move(0);
                Kit.due(act + " with a = 0", true, x::falls);
                x.restart();
                x.move(1);
                Kit.due(act + " with a = 1", false, x::falls);
                StuckSearch y = Kit.world("20 3" + first, "(.|a=1)" + act + "a?0*");
                y.move(0);
                Kit.due(act + " with a = 0, then a?0*", false, y::falls);
                y.restart();
                y.move(1);
                Kit.due(act + " with a = 1, then a?0*", true, y::falls);
            }
        }
    }

    private static void withAllThatCanBe() {
        Kit.says("or one of them can be come to from it");
        StuckSearch x = Kit.world("20 20 20 20 20", "a+", "b+", "c+", "d+", "e+", "a?1*|.");
        Kit.due("six processes and five variables", true, x::falls);
        x.move(5);
        Kit.due("the last goes another way", true, x::falls);
        x.restart();
        x.move(0);
        x.move(4);
        Kit.due("the last goes on for ever", "1,0,0,0,0,1/1,0,0,0,0", () -> Kit.now(x, 6, 5));
        Kit.due("so it does not fall", false, x::falls);
    }

    private static void neverFalls() {
        Kit.says("Whether the state now is one of the stuck ones, or one of them can be come to from it.");
        StuckSearch x = Kit.world("21", "(a-a+)*", "(a-a+)*");
        Kit.due("a lock", false, x::falls);
        Kit.due("no stuck state", 0, x::stuck);
        x.move(1);
        Kit.due("that is held", false, x::falls);
        StuckSearch y = Kit.world("20", "a-", ".*");
        Kit.due("one stands, one goes on", false, y::falls);
        StuckSearch z = Kit.world("20", "(a+a-)*|a?1.");
        Kit.due("a stuck state that can't be come to", false, z::falls);
    }

    private static void followsTheWorld() {
        Kit.says("Whether the state now is one of the stuck ones, or one of them can be come to from it.");
        StuckSearch x = Kit.world("20", "a+");
        Kit.due("one process", true, x::falls);
        Kit.process(x, ".*");
        Kit.due("another goes on", false, x::falls);
        x.clear();
        Kit.due("none", true, x::falls);
        Kit.process(x, ".*");
        Kit.due("that one alone", false, x::falls);
        Kit.process(x, "y");
        x.variable(2, 0);
        Kit.due("a variable changes nothing", false, x::falls);
        x.clear();
        x.variable(2, 0);
        Kit.process(x, "a-.*");
        Kit.due("a first value of 0", true, x::falls);
        x.clear();
        x.variable(2, 1);
        Kit.process(x, "a-.*");
        Kit.due("a first value of 1", false, x::falls);
    }

    private static void atTheLimit() {
        Kit.says("IllegalStateException: the product is above 30000.");
        StuckSearch x = Kit.world("50 50 50 50", "a=4b=4c=4d=4.......", "...");
        Kit.due("product", 30000, x::product);
        Kit.due("the first of all states", true, x::falls);
        for (int i = 0; i < 14; i++) {
            x.move(0);
        }
        Kit.due("the last of all states", "11,3/4,4,4,4", () -> Kit.now(x, 2, 4));
        Kit.due("it is stuck", true, x::falls);
    }

    private static void beyondTheLimit() {
        Kit.says("IllegalStateException: the product is above 30000.");
        StuckSearch x = Kit.world("20 30 50", "......", "..........", "............");
        Kit.due("30030", Kit.STATE, x::falls);
        x.move(0);
        Kit.due("a step on", Kit.STATE, x::falls);
        StuckSearch y = Kit.world("50 50 50 50", "...........", "...");
        Kit.due("30000", true, y::falls);
        y.variable(2, 0);
        Kit.due("60000", Kit.STATE, y::falls);
        y.clear();
        Kit.due("cleared", true, y::falls);
    }
}
