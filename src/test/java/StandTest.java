/** Promises 10 (product), 11 (stuck), 12 (ended), 13 (place) and 14 (value). */
public final class StandTest {
    private static final String TWELVE = "............";
    private static final String TWELVE_WAYS = ".|.|.|.|.|.|.|.|.|.|.|.";

    public static void main(String[] args) {
        products();
        productsAtTheLimit();
        productsBeyondAnInt();
        standsIfNoStepIsPossible();
        onlyWhatCanBeComeTo();
        fromTheFirstState();
        followsTheWorld();
        stuckAtTheLimit();
        stuckBeyondTheLimit();
        endedNeedsAllProcesses();
        endedWithPlaceNothing();
        endedBeyondTheLimit();
        orderedByProcessesInTurn();
        orderedByPlacesAsNumbers();
        orderedByProcessesBeforeVariables();
        orderedByVariablesInTurn();
        placesOfTheFirstAndLast();
        placeBeyondTheLimit();
        placeOfNoStateOrProcess();
        valuesOfTheFirstAndLast();
        valueBeyondTheLimit();
        valueOfNoStateOrVariable();
        Kit.finish();
    }

    private static void products() {
        Kit.says("THE PRODUCT is that of all processes' numbers of places and all variables' sizes.");
        Kit.due("of nothing", 1, () -> Kit.world("").product());
        Kit.due("of a variable", 4, () -> Kit.world("40").product());
        Kit.due("of a process", 3, () -> Kit.world("", "..").product());
        Kit.due("of an empty process", 1, () -> Kit.world("", "").product());
        Kit.due("of both", 5 * 2 * 3 * 4, () -> Kit.world("50 20", "..", "a+b+.").product());
        Kit.due("of all variables", 2 * 3 * 4 * 5 * 5, () -> Kit.world("20 30 40 50 50").product());
        Kit.due("of all processes", 2 * 3 * 4 * 5 * 6 * 7,
            () -> Kit.world("", ".", "..", "...", "....", ".....", "......").product());
        Kit.due("of states that can't be come to, too", 6, () -> Kit.world("20", "a-.").product());
    }

    private static StuckSearch atTheLimit() {
        return Kit.world("50 50 50 50", "a=4b=4c=4d=4.......", "...");
    }

    /** 30030, which is the least product above 30000 that there is. */
    private static StuckSearch beyondTheLimit() {
        return Kit.world("20 30 50", "......", "..........", TWELVE);
    }

    private static void productsAtTheLimit() {
        Kit.says("MANY when it is above 30000");
        Kit.due("28561", 28561, () -> Kit.world("", TWELVE, TWELVE, TWELVE, TWELVE).product());
        Kit.due("29952", 29952, () -> Kit.world("30 40 40 40 40", "..", TWELVE).product());
        Kit.due("30000", 30000, () -> atTheLimit().product());
        Kit.due("30030", StuckSearch.MANY, () -> beyondTheLimit().product());
        StuckSearch x = atTheLimit();
        x.variable(2, 0);
        Kit.due("60000", StuckSearch.MANY, x::product);
        x.clear();
        Kit.due("and 1 again", 1, x::product);
    }

    private static void productsBeyondAnInt() {
        Kit.says("MANY when it is above 30000");
        StuckSearch x = Kit.world("50 50 50 50", TWELVE, TWELVE, TWELVE, TWELVE, TWELVE, TWELVE);
        Kit.due("3016755625, which an int takes for a negative one", StuckSearch.MANY, x::product);
        x.variable(5, 0);
        Kit.due("15083778125, which is the greatest", StuckSearch.MANY, x::product);
        Kit.due("its stuck states", StuckSearch.MANY, x::stuck);
        Kit.due("its ended states", StuckSearch.MANY, x::ended);
        Kit.due("its places", Kit.STATE, () -> x.place(0, 0));
        Kit.due("its values", Kit.STATE, () -> x.value(0, 0));
        Kit.due("whether it falls", Kit.STATE, x::falls);
        Kit.due("it can be gone in", 16 * 5 + 1, () -> x.move(5));
    }

    private static void standsIfNoStepIsPossible() {
        Kit.says("It is STUCK if no step is possible in it.");
        check("both wait", Kit.world("21 21", "(a-b-a+b+)*", "(b-a-b+a+)*"), 2, 2, "1,1/0,0", 0);
        check("no end", Kit.world("21", "(a-a+)*"), 1, 1, "", 0);
        check("one end", Kit.world("", ".."), 1, 0, "2/", 1);
        check("two ends", Kit.world("", ".|.."), 1, 0, "1/ 3/", 2);
        check("a star goes on", Kit.world("", ".*"), 1, 0, "", 0);
        check("one goes on, one ends", Kit.world("", ".*", "."), 2, 0, "", 0);
        check("an end with a step is none", Kit.world("", ".(.|)"), 1, 0, "2/", 1);
        check("no processes", Kit.world("32 20"), 0, 2, "/2,0", 1);
        check("nothing at all", Kit.world(""), 0, 0, "/", 1);
        check("processes of no thing", Kit.world("", "", "()"), 2, 0, "0,0/", 1);
        check("the last process alone goes on", Kit.world("20", "a-", "a-", "a-", "a-", "a-", ".*"), 6, 1, "", 0);
    }

    private static void check(String name, StuckSearch x, int processes, int variables, String states, int ended) {
        int count = states.isEmpty() ? 0 : states.split(" ").length;
        Kit.due(name + ": stuck", count, x::stuck);
        Kit.due(name + ": ended", ended, x::ended);
        Kit.due(name + ": states", states, () -> Kit.standing(x, processes, variables));
    }

    private static void onlyWhatCanBeComeTo() {
        Kit.says("How many stuck states can be come to from the first one");
        check("the first one itself", Kit.world("32", "a+"), 1, 1, "0/2", 0);
        check("a value that can't be", Kit.world("20", "a?1..|."), 1, 1, "4/0", 1);
        check("only together", Kit.world("20", "a?1.", "a+"), 2, 1, "2,1/1", 1);
        check("two ways to one state", Kit.world("", ".", "."), 2, 0, "1,1/", 1);
        check("a long way round", Kit.world("50 54 54 54", "b=1", "(b?1..........a+)*"), 2, 4, "1,11/4,1,4,4", 0);
        check("a short way round", Kit.world("50 50 20", "...........c=1", "c?1..........b=1", "(b?1a+)*"), 3, 3,
            "12,12,1/4,1,1", 0);
        check("by another first value", Kit.world("21", "a?1..|."), 1, 1, "3/1 4/1", 2);
    }

    private static void fromTheFirstState() {
        Kit.says("from the first one");
        StuckSearch x = Kit.world("30", "a+a+|.", "a?1a-");
        String all = "2,0/2 2,2/1 3,0/0";
        Kit.due("at first", all, () -> Kit.standing(x, 2, 1));
        x.move(1);
        Kit.due("a step on", all, () -> Kit.standing(x, 2, 1));
        Kit.due("the state now stays", "3,0/0", () -> Kit.now(x, 2, 1));
        Kit.due("and the steps", 1, x::restart);
        StuckSearch y = Kit.world("30", "a+a+|.", "a?1a-");
        y.move(1);
        Kit.due("asked behind a step", 3, y::stuck);
        Kit.due("and their places", all, () -> Kit.standing(y, 2, 1));
    }

    private static void followsTheWorld() {
        Kit.says("How many stuck states can be come to from the first one");
        StuckSearch x = Kit.world("20", "a+a-");
        Kit.due("one process", "2/0", () -> Kit.standing(x, 1, 1));
        Kit.due("at its end", 1, x::ended);
        Kit.process(x, "a-");
        Kit.due("two processes", "1,1/0 2,0/0", () -> Kit.standing(x, 2, 1));
        Kit.due("never both at their ends", 0, x::ended);
        Kit.process(x, "x");
        Kit.due("a fault between", "1,1/0 2,0/0", () -> Kit.standing(x, 2, 1));
        x.variable(3, 1);
        Kit.due("two variables", "1,1/0,1 2,0/0,1", () -> Kit.standing(x, 2, 2));
        Kit.process(x, "");
        Kit.due("three processes", "1,1,0/0,1 2,0,0/0,1", () -> Kit.standing(x, 3, 2));
        x.clear();
        Kit.due("none", "/", () -> Kit.standing(x, 0, 0));
        x.variable(3, 2);
        Kit.due("another variable", "/2", () -> Kit.standing(x, 0, 1));
        Kit.process(x, "a-*");
        Kit.due("another process", "1/0", () -> Kit.standing(x, 1, 1));
    }

    private static void stuckAtTheLimit() {
        Kit.says("MANY when the product is above 30000");
        StuckSearch x = atTheLimit();
        Kit.due("30000: stuck", 1, x::stuck);
        Kit.due("30000: ended", 1, x::ended);
        Kit.due("30000: the last of all states", "11,3/4,4,4,4", () -> Kit.standing(x, 2, 4));
        StuckSearch y = Kit.world("", TWELVE_WAYS, TWELVE_WAYS, TWELVE_WAYS, TWELVE_WAYS);
        Kit.due("28561: stuck", 12 * 12 * 12 * 12, y::stuck);
        Kit.due("28561: ended", 12 * 12 * 12 * 12, y::ended);
        // All states but those with a process at 0 and values that it alone can change.
        StuckSearch z = Kit.world("50 50 50 50", "(a+|a-|b+|b-|c+|c-|d+|d-|.|.|.)*", "(.|.|.)*");
        Kit.due("30000, nearly all come to: stuck", 0, z::stuck);
        Kit.due("30000, nearly all come to: ended", 0, z::ended);
        Kit.due("30000, nearly all come to: falls", false, z::falls);
    }

    private static void stuckBeyondTheLimit() {
        Kit.says("MANY when the product is above 30000");
        StuckSearch x = beyondTheLimit();
        Kit.due("stuck", StuckSearch.MANY, x::stuck);
        StuckSearch y = Kit.world("50 50 50 50 50", TWELVE);
        Kit.due("stuck with few states that can be come to", StuckSearch.MANY, y::stuck);
        y.clear();
        Kit.due("stuck below it again", 1, y::stuck);
    }

    private static void endedNeedsAllProcesses() {
        Kit.says("In how many of these all processes are at ends");
        check("one of two", Kit.world("20", ".", "a-"), 2, 1, "1,0/0", 0);
        check("the other of two", Kit.world("20", "a-", "."), 2, 1, "0,1/0", 0);
        check("none of two", Kit.world("20", "a-", ".a-"), 2, 1, "0,1/0", 0);
        check("both", Kit.world("20", "a+", "."), 2, 1, "1,1/1", 1);
        check("some", Kit.world("20", "a+|a!1.", "a?1|.a?1"), 2, 1, "1,1/1 1,3/1 3,2/0", 2);
        check("five of six", Kit.world("20", ".", ".", ".", ".", ".", "a-"), 6, 1, "1,1,1,1,1,0/0", 0);
        check("the last five of six", Kit.world("20", "a-", ".", ".", ".", ".", "."), 6, 1, "0,1,1,1,1,1/0", 0);
        check("no process is at none", Kit.world("20"), 0, 1, "/0", 1);
    }

    private static void endedWithPlaceNothing() {
        Kit.says("ENDS are the last places, and 0, if it can be nothing.");
        check("0 is no end", Kit.world("32", "a+"), 1, 1, "0/2", 0);
        check("0 is an end", Kit.world("32", "a+|"), 1, 1, "0/2", 1);
        check("0 with a star", Kit.world("32", "a+*"), 1, 1, "0/2", 1);
        check("an end in the middle", Kit.world("20", ".(a-|)"), 1, 1, "1/0", 1);
        check("no end in the middle", Kit.world("20", ".a-"), 1, 1, "1/0", 0);
    }

    private static void endedBeyondTheLimit() {
        Kit.says("MANY as there");
        Kit.due("ended", StuckSearch.MANY, () -> beyondTheLimit().ended());
        StuckSearch x = atTheLimit();
        Kit.due("at the limit", 1, x::ended);
        x.variable(2, 0);
        Kit.due("beyond it", StuckSearch.MANY, x::ended);
        x.clear();
        Kit.due("below it", 1, x::ended);
    }

    private static void orderedByProcessesInTurn() {
        Kit.says("ORDERED by the place of process 0, then 1, ..");
        StuckSearch x = Kit.world("", ".|.", ".|.", ".|.", ".|.", ".|.", ".|.");
        Kit.due("stuck", 64, x::stuck);
        for (int k = 0; k < 64; k++) {
            for (int p = 0; p < 6; p++) {
                int state = k;
                int process = p;
                Kit.due("place " + k + " " + p, 1 + (k >> 5 - p & 1), () -> x.place(state, process));
            }
        }
    }

    private static void orderedByPlacesAsNumbers() {
        Kit.says("ORDERED by the place of process 0, then 1, ..");
        StuckSearch x = Kit.world("", TWELVE_WAYS, TWELVE_WAYS);
        Kit.due("stuck", 144, x::stuck);
        for (int k = 0; k < 144; k++) {
            int state = k;
            Kit.due("place " + k, 1 + k / 12 + "," + (1 + k % 12), () -> x.place(state, 0) + "," + x.place(state, 1));
        }
    }

    private static void orderedByProcessesBeforeVariables() {
        Kit.says("then the values of variable 0, 1, ..");
        check("the place is looked at first", Kit.world("50", "a=3|a=1"), 1, 1, "1/3 2/1", 2);
        check("the last place too", Kit.world("50 50", "", "a=4|a=2|b=1"), 2, 2, "0,1/4,0 0,2/2,0 0,3/0,1", 3);
        check("values if places are alike", Kit.world("50", "a=3|a=1", "a=2a=0"), 2, 1,
            "1,2/0 1,2/3 2,2/0 2,2/1", 4);
    }

    private static void orderedByVariablesInTurn() {
        Kit.says("then the values of variable 0, 1, ..");
        // Each variable has what the later of both has put there, and any of them can be that.
        StuckSearch x = Kit.world("20 20 20 20 20", "a=0b=0c=0d=0e=0", "a=1b=1c=1d=1e=1");
        Kit.due("stuck", 32, x::stuck);
        for (int k = 0; k < 32; k++) {
            for (int v = 0; v < 5; v++) {
                int state = k;
                int variable = v;
                Kit.due("value " + k + " " + v, k >> 4 - v & 1, () -> x.value(state, variable));
            }
        }
        check("values as numbers", Kit.world("50 52", "a=4b=3", "a=3b=4"), 2, 2,
            "2,2/3,3 2,2/3,4 2,2/4,3 2,2/4,4", 4);
    }

    private static void placesOfTheFirstAndLast() {
        Kit.says("The place of a process in the k-th stuck state (from 0 on).");
        StuckSearch x = Kit.world("", TWELVE_WAYS, TWELVE_WAYS, TWELVE_WAYS, TWELVE_WAYS);
        int last = 12 * 12 * 12 * 12 - 1;
        Kit.due("place 0 0", 1, () -> x.place(0, 0));
        Kit.due("place 0 3", 1, () -> x.place(0, 3));
        Kit.due("place 1 3", 2, () -> x.place(1, 3));
        Kit.due("place 12 3", 1, () -> x.place(12, 3));
        Kit.due("place 12 2", 2, () -> x.place(12, 2));
        Kit.due("the last state", 12, () -> x.place(last, 0));
        Kit.due("the last state's last place", 12, () -> x.place(last, 3));
        Kit.due("the last but one", 11, () -> x.place(last - 1, 3));
        Kit.due("behind the last", Kit.INDEX, () -> x.place(last + 1, 0));
        Kit.due("as the first question", 1, () -> Kit.world("", ".").place(0, 0));
    }

    private static void placeBeyondTheLimit() {
        Kit.says("IllegalStateException: the product is above 30000.");
        StuckSearch x = beyondTheLimit();
        Kit.due("place", Kit.STATE, () -> x.place(0, 0));
        Kit.due("place of no state", Kit.STATE, () -> x.place(-1, 0));
        Kit.due("place of no process", Kit.STATE, () -> x.place(0, 3));
        Kit.due("place of neither", Kit.STATE, () -> x.place(Integer.MAX_VALUE, Integer.MIN_VALUE));
        StuckSearch y = atTheLimit();
        Kit.due("at the limit", 11, () -> y.place(0, 0));
        y.variable(2, 0);
        Kit.due("beyond it", Kit.STATE, () -> y.place(0, 0));
        y.clear();
        Kit.due("below it, with no process", Kit.INDEX, () -> y.place(0, 0));
    }

    private static void placeOfNoStateOrProcess() {
        Kit.says("IndexOutOfBoundsException: there is no such state or process.");
        StuckSearch x = Kit.world("20", ".|.|.", "");
        for (int k : Kit.outside(3)) {
            Kit.due("place of state " + k, Kit.INDEX, () -> x.place(k, 0));
            Kit.due("place of state " + k + " and no process", Kit.INDEX, () -> x.place(k, 2));
        }
        for (int p : Kit.outside(2)) {
            Kit.due("place of process " + p, Kit.INDEX, () -> x.place(0, p));
            Kit.due("place of process " + p, Kit.INDEX, () -> x.place(2, p));
        }
        Kit.due("the last of both", 0, () -> x.place(2, 1));
        StuckSearch y = Kit.world("", ".*");
        Kit.due("no state at all", Kit.INDEX, () -> y.place(0, 0));
        StuckSearch z = Kit.world("20");
        Kit.due("no process at all", Kit.INDEX, () -> z.place(0, 0));
        StuckSearch six = Kit.world("", ".", ".", ".", ".", ".", ".");
        Kit.due("the sixth of six", 1, () -> six.place(0, 5));
        Kit.due("the seventh of six", Kit.INDEX, () -> six.place(0, 6));
    }

    private static void valuesOfTheFirstAndLast() {
        Kit.says("The value of a variable in the k-th stuck state.");
        StuckSearch x = Kit.world("54 31", "a=2|a=3|a=0|b=2");
        int[][] due = {{2, 1}, {3, 1}, {0, 1}, {4, 2}};
        for (int k = 0; k < due.length; k++) {
            int state = k;
            Kit.due("value " + k + " 0", due[k][0], () -> x.value(state, 0));
            Kit.due("value " + k + " 1", due[k][1], () -> x.value(state, 1));
        }
        Kit.due("behind the last", Kit.INDEX, () -> x.value(4, 0));
        Kit.due("as the first question", 3, () -> Kit.world("43").value(0, 0));
        Kit.due("with five", 4, () -> Kit.world("20 20 20 20 54", "").value(0, 4));
    }

    private static void valueBeyondTheLimit() {
        Kit.says("IllegalStateException: the product is above 30000.");
        StuckSearch x = beyondTheLimit();
        Kit.due("value", Kit.STATE, () -> x.value(0, 0));
        Kit.due("value of no state", Kit.STATE, () -> x.value(-1, 0));
        Kit.due("value of no variable", Kit.STATE, () -> x.value(0, 3));
        Kit.due("value of neither", Kit.STATE, () -> x.value(Integer.MAX_VALUE, Integer.MIN_VALUE));
        StuckSearch y = atTheLimit();
        Kit.due("at the limit", 4, () -> y.value(0, 3));
        y.variable(2, 0);
        Kit.due("beyond it", Kit.STATE, () -> y.value(0, 0));
        y.clear();
        Kit.due("below it, with no variable", Kit.INDEX, () -> y.value(0, 0));
    }

    private static void valueOfNoStateOrVariable() {
        Kit.says("IndexOutOfBoundsException: there is no such state or variable.");
        StuckSearch x = Kit.world("20 41", ".|.|.");
        for (int k : Kit.outside(3)) {
            Kit.due("value of state " + k, Kit.INDEX, () -> x.value(k, 0));
            Kit.due("value of state " + k + " and no variable", Kit.INDEX, () -> x.value(k, 2));
        }
        for (int v : Kit.outside(2)) {
            Kit.due("value of variable " + v, Kit.INDEX, () -> x.value(0, v));
            Kit.due("value of variable " + v, Kit.INDEX, () -> x.value(2, v));
        }
        Kit.due("the last of both", 1, () -> x.value(2, 1));
        StuckSearch y = Kit.world("20", ".*");
        Kit.due("no state at all", Kit.INDEX, () -> y.value(0, 0));
        StuckSearch z = Kit.world("", ".");
        Kit.due("no variable at all", Kit.INDEX, () -> z.value(0, 0));
        StuckSearch five = Kit.world("20 20 20 20 21");
        Kit.due("the fifth of five", 1, () -> five.value(0, 4));
        Kit.due("the sixth of five", Kit.INDEX, () -> five.value(0, 5));
    }
}
