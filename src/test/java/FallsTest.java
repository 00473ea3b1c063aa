/** Promise 20 (falls). */
public final class FallsTest {
    public static void main(String[] args) {
        changesOnTheWay();
        undoesEachAct();
        standingFalls();
        neverFalls();
        followsTheWorld();
        Kit.finish();
    }

    private static void changesOnTheWay() {
        StuckSearch x = Kit.world("", "..|.*");
        Kit.due("one way stands", true, x::falls);
        x.move(1);
        Kit.due("the other doesn't", false, x::falls);
        x.move(0);
        Kit.due("nor later", false, x::falls);
        x.restart();
        Kit.due("again at first", true, x::falls);
        x.move(0);
        Kit.due("on the way", true, x::falls);
        x.move(0);
        Kit.due("there", true, x::falls);
        Kit.due("falls doesn't move", 2, x::restart);
    }

    /** The second act alone decides whether the loop behind it can be left. */
    private static void undoesEachAct() {
        String[] first = {"a=0", "a=1", "a=2"};
        String[][] gates = {
            {".", "111"}, {"a+", "110"}, {"a-", "011"}, {"a=1", "111"}, {"a?1", "010"}, {"a!1", "101"},
        };
        for (String[] gate : gates) {
            for (int value = 0; value < 3; value++) {
                StuckSearch x = Kit.world("30", "(" + first[value] + ".*" + gate[0] + "|.*)");
                x.move(0);
                Kit.due(first[value] + " then " + gate[0], gate[1].charAt(value) == '1', x::falls);
                x.move(0);
                Kit.due(first[value] + " and on, then " + gate[0], gate[1].charAt(value) == '1', x::falls);
            }
        }
    }

    private static void standingFalls() {
        StuckSearch x = Kit.world("21 21", "(a-b-a+b+)*", "(b-a-b+a+)*");
        Kit.due("philosophers", true, x::falls);
        x.move(0);
        x.move(0);
        Kit.due("from everywhere", true, x::falls);
        x.restart();
        x.move(0);
        x.move(1);
        Kit.due("both hold one", true, x::falls);
        Kit.due("none can go on", 0, x::moves);
        Kit.due("no processes", true, () -> Kit.world("54").falls());
    }

    private static void neverFalls() {
        StuckSearch x = Kit.world("21", "(a-a+)*", "(a-a+)*");
        Kit.due("a lock", false, x::falls);
        Kit.due("no stuck state", 0, x::stuck);
        x.move(1);
        Kit.due("that is held", false, x::falls);
    }

    private static void followsTheWorld() {
        StuckSearch x = Kit.world("20", "a+");
        Kit.due("one process", true, x::falls);
        Kit.process(x, ".*");
        Kit.due("another goes on", false, x::falls);
        x.clear();
        Kit.due("none", true, x::falls);
        Kit.process(x, ".*");
        Kit.due("that one alone", false, x::falls);
        Kit.process(x, "y");
        x.variable(2, 0);
        Kit.due("a variable changes nothing", false, x::falls);
    }
}
