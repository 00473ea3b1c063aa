import java.util.ArrayList;
import java.util.List;
import java.util.Map;
import java.util.TreeMap;

/** Promises 5 (which texts there are and what they tell) and 9 (told). */
public final class TextTest {
    public static void main(String[] args) {
        noThing();
        anAct();
        thingsBehindOneAnother();
        nothingBehindOneAnother();
        choices();
        stars();
        anyNumberOfStars();
        theWholeText();
        placesInTheOrderOfTheActs();
        upToTwelveActs();
        upToTwelveOpen();
        aHundredBytes();
        actsOfEachKind();
        lettersAreVariables();
        toldCounts();
        toldOfNoProcess();
        toldOfAnotherWhat();
        Kit.finish();
    }

    private static void noThing() {
        Kit.says("Of no thing: it can; none.");
        graph("", "0: ends 0");
        graph("()", "0: ends 0");
        graph("()()", "0: ends 0");
        graph("(())", "0: ends 0");
        graph("().", "0:1 1: ends 1");
        graph(".()", "0:1 1: ends 1");
        graph(".().", "0:1 1:2 2: ends 2");
    }

    private static void anAct() {
        Kit.says("Of an act: not; its place, for both.");
        graph(".", "0:1 1: ends 1");
        graph("(.)", "0:1 1: ends 1");
        graph("((.))", "0:1 1: ends 1");
    }

    private static void thingsBehindOneAnother() {
        Kit.says("steps from each last place of the former to each first one of the latter");
        graph("..", "0:1 1:2 2: ends 2");
        graph("...", "0:1 1:2 2:3 3: ends 3");
        graph("(.).", "0:1 1:2 2: ends 2");
        graph(".(.)", "0:1 1:2 2: ends 2");
        graph("(.|.)(.|.)", "0:1,2 1:3,4 2:3,4 3: 4: ends 3,4");
        graph("(..|.)(..|.)", "0:1,3 1:2 2:4,6 3:4,6 4:5 5: 6: ends 5,6");
    }

    private static void nothingBehindOneAnother() {
        Kit.says("if both can; the first places of the former, and of the latter, if the former can be nothing;"
            + " the last ones of the latter, and of the former, if the latter can be nothing");
        graph("(.|).", "0:1,2 1:2 2: ends 2");
        graph(".(.|)", "0:1 1:2 2: ends 1,2");
        graph("(.|)(.|)", "0:1,2 1:2 2: ends 0,1,2");
        graph(".(.|).", "0:1 1:2,3 2:3 3: ends 3");
        graph("(.|)(.|).", "0:1,2,3 1:2,3 2:3 3: ends 3");
        graph(".(.|)(.|)", "0:1 1:2,3 2:3 3: ends 1,2,3");
        graph("(.|).(.|)", "0:1,2 1:2 2:3 3: ends 2,3");
        graph("(.|)(.|)(.|)", "0:1,2,3 1:2,3 2:3 3: ends 0,1,2,3");
        graph("((.|)(.|)).", "0:1,2,3 1:2,3 2:3 3: ends 3");
    }

    private static void choices() {
        Kit.says("Of choices: if one can; the first and last ones of all.");
        graph(".|.", "0:1,2 1: 2: ends 1,2");
        graph(".|.|.", "0:1,2,3 1: 2: 3: ends 1,2,3");
        graph("..|..", "0:1,3 1:2 2: 3:4 4: ends 2,4");
        graph("|", "0: ends 0");
        graph("||", "0: ends 0");
        graph("(|)", "0: ends 0");
        graph(".|", "0:1 1: ends 0,1");
        graph("|.", "0:1 1: ends 0,1");
        graph(".||.", "0:1,2 1: 2: ends 0,1,2");
        graph(".|.|", "0:1,2 1: 2: ends 0,1,2");
        graph("|.|.", "0:1,2 1: 2: ends 0,1,2");
        graph(".(|.).", "0:1 1:2,3 2:3 3: ends 3");
        graph(".(.|.|).", "0:1 1:2,3,4 2:4 3:4 4: ends 4");
        graph("(.|)|.", "0:1,2 1: 2: ends 0,1,2");
        graph(".|(..|.).", "0:1,2,4 1: 2:3 3:5 4:5 5: ends 1,5");
    }

    private static void stars() {
        Kit.says("Of one with *: it can; first and last ones stay; and steps from each last one to each first one.");
        graph(".*", "0:1 1:1 ends 0,1");
        graph("..*", "0:1 1:2 2:2 ends 1,2");
        graph(".*.", "0:1,2 1:1,2 2: ends 2");
        graph(".*.*", "0:1,2 1:1,2 2:2 ends 0,1,2");
        graph("(..)*", "0:1 1:2 2:1 ends 0,2");
        graph("(..)*.", "0:1,3 1:2 2:1,3 3: ends 3");
        graph("(.|.)*", "0:1,2 1:1,2 2:1,2 ends 0,1,2");
        graph("(.*.)*", "0:1,2 1:1,2 2:1,2 ends 0,2");
        graph("(..*)*", "0:1 1:1,2 2:1,2 ends 0,1,2");
        graph("(.*.*)*", "0:1,2 1:1,2 2:1,2 ends 0,1,2");
        graph("(.(.|))*.", "0:1,3 1:1,2,3 2:1,3 3: ends 3");
        graph("(.|(..)*)*", "0:1,2 1:1,2 2:3 3:1,2 ends 0,1,3");
        graph(".(.|.)*.", "0:1 1:2,3,4 2:2,3,4 3:2,3,4 4: ends 4");
        graph(".|.*", "0:1,2 1: 2:2 ends 0,1,2");
        graph(".*|.", "0:1,2 1:1 2: ends 0,1,2");
        graph("()*", "0: ends 0");
        graph("(|)*", "0: ends 0");
        graph(".()*.", "0:1 1:2 2: ends 2");
    }

    private static void anyNumberOfStars() {
        Kit.says("any number of * behind it");
        graph(".**", "0:1 1:1 ends 0,1");
        graph("(.*)*", "0:1 1:1 ends 0,1");
        graph("(..)***", "0:1 1:2 2:1 ends 0,2");
        graph("()**", "0: ends 0");
        graph("." + "*".repeat(50), "0:1 1:1 ends 0,1");
        graph(".***..**", "0:1,2 1:1,2 2:3 3:3 ends 2,3");
    }

    private static void theWholeText() {
        Kit.says("Of the whole text: steps from 0 to the first places;"
            + " ENDS are the last places, and 0, if it can be nothing.");
        graph("(.|..)(.|)", "0:1,2 1:4 2:3 3:4 4: ends 1,3,4");
        graph("(.|..)*(.|)", "0:1,2,4 1:1,2,4 2:3 3:1,2,4 4: ends 0,1,3,4");
        graph("(.(.(.|)|)|)", "0:1 1:2 2:3 3: ends 0,1,2,3");
    }

    private static void placesInTheOrderOfTheActs() {
        Kit.says("Places: 0, and one for each act, in their order, 1, 2, ..");
        StuckSearch x = Kit.world("50", "(a=1|(a=2)*)a=3|a=4");
        int[] places = {1, 2, 3, 4};
        for (int k = 0; k < places.length; k++) {
            int step = k;
            int place = places[k];
            Kit.due("step " + k, place, () -> x.move(step));
            Kit.due("the place's act", place, () -> x.has(0));
            x.restart();
        }
    }

    private static void upToTwelveActs() {
        Kit.says("2 the 13th act");
        String all = "1,2,3,4,5,6,7,8,9,10,11,12";
        graph("............", "0:1 1:2 2:3 3:4 4:5 5:6 6:7 7:8 8:9 9:10 10:11 11:12 12: ends 12");
        StuckSearch x = Kit.world("", "(.|.|.|.|.|.|.|.|.|.|.|.)*");
        Kit.due("all to all", "13 156 13", () -> Kit.shape(x, 0));
        StuckSearch y = Kit.world("", ".|.|.|.|.|.|.|.|.|.|.|.");
        Kit.due("all apart", "13 12 12", () -> Kit.shape(y, 0));
        Kit.due("all stand", all.replace(",", "/ ") + "/", () -> Kit.standing(y, 1, 0));
    }

    private static void upToTwelveOpen() {
        Kit.says("3 the 13th ( that is open");
        String open = "((((((((((((";
        graph(open + "." + "))))))))))))", "0:1 1: ends 1");
        graph(open + "." + ")*)*)*)*)*)*)*)*)*)*)*)*", "0:1 1:1 ends 0,1");
        graph(open + "|))))))))))))", "0: ends 0");
        graph(open + "))))))))))))." + open + "))))))))))))", "0:1 1: ends 1");
        graph("()".repeat(20) + ".", "0:1 1: ends 1");
        graph("(.(.(.(.(.(.(.(.(.(.(.(.))))))))))))",
            "0:1 1:2 2:3 3:4 4:5 5:6 6:7 7:8 8:9 9:10 10:11 11:12 12: ends 12");
        graph("((((((((((((.).).).).).).).).).).).)",
            "0:1 1:2 2:3 3:4 4:5 5:6 6:7 7:8 8:9 9:10 10:11 11:12 12: ends 12");
    }

    private static void aHundredBytes() {
        Kit.says("THE TAPE has up to 100 bytes.");
        StuckSearch x = Kit.world("50");
        Kit.due("choices", 0, () -> Kit.process(x, "|".repeat(99) + "."));
        Kit.due("their shape", "2 1 2", () -> Kit.shape(x, 0));
        Kit.due("stars", 1, () -> Kit.process(x, "." + "*".repeat(99)));
        Kit.due("their shape", "2 2 2", () -> Kit.shape(x, 1));
        Kit.due("texts", 2, () -> Kit.process(x, "()".repeat(50)));
        Kit.due("their shape", "1 0 1", () -> Kit.shape(x, 2));
        Kit.due("a figure at the end", 3, () -> Kit.process(x, "|".repeat(97) + "a=4"));
        Kit.due("its shape", "2 1 2", () -> Kit.shape(x, 3));
        Kit.due("a sign at the end", 4, () -> Kit.process(x, "|".repeat(98) + "a-"));
        Kit.due("its shape", "2 1 2", () -> Kit.shape(x, 4));
    }

    private static void actsOfEachKind() {
        Kit.says("A point can always be done. a+ can be done if a is less than its greatest value, and makes it one"
            + " greater; a- if it isn't 0, and makes it one less. a=3 can always be done; a is 3 then."
            + " a?3 can be done if a is 3, a!3 if it isn't; both change nothing.");
        for (int size = 2; size <= 5; size++) {
            for (int value = 0; value < size; value++) {
                act(size, value, ".", value);
                act(size, value, "b+", value < size - 1 ? value + 1 : StuckSearch.NONE);
                act(size, value, "b-", value > 0 ? value - 1 : StuckSearch.NONE);
                for (int figure = 0; figure < size; figure++) {
                    act(size, value, "b=" + figure, figure);
                    act(size, value, "b?" + figure, value == figure ? value : StuckSearch.NONE);
                    act(size, value, "b!" + figure, value != figure ? value : StuckSearch.NONE);
                }
            }
        }
    }

    /** Variable b stands between two others that no act may change; NONE: the act can't be done. */
    private static void act(int size, int value, String act, int behind) {
        StuckSearch x = Kit.world("31 " + size + value + " 31", act);
        boolean can = behind != StuckSearch.NONE;
        String what = act + " with " + value + " of " + size;
        String state = can ? "1/1," + behind + ",1" : "0/1," + value + ",1";
        Kit.due(what + ": moves", can ? 1 : 0, x::moves);
        Kit.due(what + ": stuck", state, () -> Kit.standing(x, 1, 3));
        Kit.due(what + ": ended", can ? 1 : 0, x::ended);
        Kit.due(what + ": move", can ? 1 : Kit.INDEX, () -> x.move(0));
        Kit.due(what + ": now", state, () -> Kit.now(x, 1, 3));
        Kit.due(what + ": falls", true, x::falls);
    }

    private static void lettersAreVariables() {
        Kit.says("a letter a .. e (variable 0 .. 4) that is that of a variable");
        for (int v = 0; v < 5; v++) {
            StuckSearch x = Kit.world("50 50 50 50 50", (char) ('a' + v) + "=" + (v == 0 ? 4 : v));
            x.move(0);
            for (int other = 0; other < 5; other++) {
                int number = other;
                Kit.due("value of " + other, other != v ? 0 : v == 0 ? 4 : v, () -> x.has(number));
            }
        }
        StuckSearch y = new StuckSearch();
        Kit.write(y, "e=4");
        for (int i = 0; i < 5; i++) {
            Kit.due("e with " + i + " variables", StuckSearch.NONE, y::process);
            Kit.due("its fault", "1 at 0", () -> Kit.fault(y));
            y.variable(5, 1);
        }
        Kit.due("e with 5 variables", 0, y::process);
    }

    private static void toldCounts() {
        Kit.says("How many places a process has (what = 0), how many steps there are (1),"
            + " how many of its places are ends (2).");
        StuckSearch x = Kit.world("50 21", "(a+|b-)*a=1", "((a?0|b!1)a+*)*", "a+a-a=0a?4a!3", ".(.*|).", "", "b-|");
        String[] shapes = {"4 9 1", "4 11 4", "6 5 1", "4 5 1", "1 0 1", "2 1 2"};
        for (int p = 0; p < shapes.length; p++) {
            int number = p;
            Kit.due("shape of " + p, shapes[p], () -> Kit.shape(x, number));
        }
        x.move(0);
        Kit.due("the state now changes nothing", "4 9 1", () -> Kit.shape(x, 0));
        StuckSearch y = Kit.world("20", "a-a?1");
        Kit.due("steps that are never possible count", "3 2 1", () -> Kit.shape(y, 0));
    }

    private static void toldOfNoProcess() {
        Kit.says("IndexOutOfBoundsException: there is no such process.");
        for (int count : new int[] {0, 1, 2, 6}) {
            StuckSearch x = new StuckSearch();
            for (int i = 0; i < count; i++) {
                x.process();
            }
            for (int process : Kit.outside(count)) {
                for (int what : new int[] {0, 1, 2, 3, -1}) {
                    Kit.due("told " + process + " of " + count, Kit.INDEX, () -> x.told(process, what));
                }
            }
            if (count > 0) {
                Kit.due("told of the last", 1, () -> x.told(count - 1, 0));
            }
        }
    }

    private static void toldOfAnotherWhat() {
        Kit.says("IllegalArgumentException: another what.");
        StuckSearch x = Kit.world("", ".", "..");
        for (int what : Kit.outside(3)) {
            Kit.due("told " + what, Kit.ARGUMENT, () -> x.told(1, what));
            Kit.due("told " + what, Kit.ARGUMENT, () -> x.told(0, what));
        }
        Kit.due("told of the second", "3 2 1", () -> Kit.shape(x, 1));
    }

    /** A text of points: the steps from each of its places, and its ends, and how many there are. */
    private static void graph(String text, String want) {
        StuckSearch x = Kit.world("", text);
        Kit.due("fault of " + text, "0 at -1", () -> Kit.fault(x));
        Kit.due("text " + text, want, () -> steps(x) + " ends " + ends(text));
        Kit.due("shape of " + text, shape(want), () -> Kit.shape(x, 0));
    }

    /** How many places, steps and ends a graph has. */
    private static String shape(String graph) {
        String[] halves = graph.split(" ends ");
        String[] places = halves[0].split(" ");
        int steps = 0;
        for (String place : places) {
            String targets = place.substring(place.indexOf(':') + 1);
            steps += targets.isEmpty() ? 0 : targets.split(",").length;
        }
        return places.length + " " + steps + " " + halves[1].split(",").length;
    }

    private static int count(String text, char one) {
        return (int) text.chars().filter(c -> c == one).count();
    }

    /** Goes all ways of one process, each place but once. */
    private static String steps(StuckSearch x) {
        TreeMap<Integer, List<Integer>> ways = new TreeMap<>(Map.of(0, List.of()));
        TreeMap<Integer, String> steps = new TreeMap<>();
        while (steps.size() < ways.size()) {
            for (int from : List.copyOf(ways.keySet())) {
                if (!steps.containsKey(from)) {
                    steps.put(from, targets(x, ways, ways.get(from)));
                }
            }
        }
        StringBuilder all = new StringBuilder();
        steps.forEach((from, targets) -> all.append(' ').append(from).append(':').append(targets));
        return all.substring(1);
    }

    /** Where steps go from the end of a way; ways to places that are new are kept. */
    private static String targets(StuckSearch x, Map<Integer, List<Integer>> ways, List<Integer> way) {
        StringBuilder targets = new StringBuilder();
        x.restart();
        way.forEach(x::move);
        int count = x.moves();
        for (int k = 0; k < count; k++) {
            x.restart();
            way.forEach(x::move);
            int target = x.move(k);
            targets.append(k == 0 ? "" : ",").append(target);
            List<Integer> longer = new ArrayList<>(way);
            longer.add(k);
            ways.putIfAbsent(target, longer);
        }
        return targets.toString();
    }

    private static String ends(String text) {
        StringBuilder ends = new StringBuilder();
        for (int place = 0; place <= count(text, '.'); place++) {
            if (isEnd(text, place)) {
                ends.append(ends.length() == 0 ? "" : ",").append(place);
            }
        }
        return ends.toString();
    }

    /** All acts wait for a to be 1, which that of the place ends: so the process stands there alone. */
    private static boolean isEnd(String text, int place) {
        StringBuilder gated = new StringBuilder();
        int acts = 0;
        for (char c : text.toCharArray()) {
            if (c == '.') {
                acts++;
                gated.append(acts == place ? "a-" : "a?1");
            } else {
                gated.append(c);
            }
        }
        StuckSearch x = Kit.world(place == 0 ? "20" : "21", gated.toString(), "a?1*");
        return x.ended() > 0;
    }
}
