import java.util.ArrayList;
import java.util.List;
import java.util.Map;
import java.util.TreeMap;

/** Promises 5 (which texts), 6 (fault), 7 (faultAt) and 9 (told). */
public final class TextTest {
    public static void main(String[] args) {
        shapes();
        faults();
        limits();
        faultIsOfTheLastText();
        sixProcessesKeepTheFault();
        stepsGoWhereTheyShould();
        wrongTold();
        Kit.finish();
    }

    /** Places, steps, ends. */
    private static void shapes() {
        String[][] all = {
            {"", "1 0 1"}, {"()", "1 0 1"}, {"|", "1 0 1"}, {"()*", "1 0 1"}, {"(|)**", "1 0 1"},
            {".", "2 1 1"}, {".*", "2 2 2"}, {"(.)**", "2 2 2"}, {"(.*)*", "2 2 2"}, {".|", "2 1 2"},
            {"|.", "2 1 2"}, {"..", "3 2 1"}, {".|.", "3 2 2"}, {".||.", "3 2 3"}, {".*.", "3 4 1"},
            {"..*", "3 3 2"}, {".*.*", "3 5 3"}, {"(.*.*)*", "3 6 3"}, {"(..)*", "3 3 2"},
            {"(.|.)*", "3 6 3"}, {"(.|)(.|)", "3 3 3"}, {"(.|)(.|)(.|)", "4 6 4"}, {".(.|).", "4 4 1"},
            {"(a+|b-)*a=1", "4 9 1"}, {"((a?0|b!1)a+*)*", "4 11 4"}, {".()*.", "3 2 1"},
            {"a+a-a=0a?4a!3", "6 5 1"}, {"(.|.|.|.|.|.|.|.|.|.|.|.)*", "13 156 13"},
            {"............", "13 12 1"}, {".(.*|).", "4 5 1"}, {"(.(.(.|)|)|)", "4 3 4"},
        };
        for (String[] one : all) {
            StuckSearch x = Kit.world("50 21");
            Kit.due("process " + one[0], 0, () -> Kit.process(x, one[0]));
            Kit.due("fault of " + one[0], "0 at -1", () -> x.fault() + " at " + x.faultAt());
            Kit.due("shape of " + one[0], one[1], () -> Kit.shape(x, 0));
        }
    }

    /** With a of size 3 and b of size 5. */
    private static void faults() {
        String[][] all = {
            {"a", "1 at 1"}, {"a=", "1 at 2"}, {"a=3", "1 at 2"}, {"a?3", "1 at 2"}, {"a!3", "1 at 2"},
            {"b=5", "1 at 2"}, {"b?9", "1 at 2"}, {"b!:", "1 at 2"}, {"b=/", "1 at 2"}, {"c+", "1 at 0"},
            {"e", "1 at 0"}, {"f+", "1 at 0"}, {"`+", "1 at 0"}, {"A+", "1 at 0"}, {"a++", "1 at 2"},
            {"a+2", "1 at 2"}, {"a.", "1 at 1"}, {"aa+", "1 at 1"}, {"a(", "1 at 1"}, {"a=*", "1 at 2"},
            {"*", "1 at 0"}, {"|*", "1 at 1"}, {"(*)", "1 at 1"}, {"(|*", "1 at 2"}, {")", "1 at 0"},
            {"a+)", "1 at 2"}, {"())", "1 at 2"}, {"(", "1 at 1"}, {"(a+", "1 at 3"}, {"((.)", "1 at 4"},
            {"(.|", "1 at 3"}, {" a+", "1 at 0"}, {"a +", "1 at 1"}, {"a+ ", "1 at 2"}, {"+", "1 at 0"},
            {"0", "1 at 0"}, {".\0", "1 at 1"}, {".\u00ff", "1 at 1"}, {"\u00ae", "1 at 0"}, {"..x..)", "1 at 2"},
            {".a\u00ab", "1 at 2"}, {"a=2b=4c=0", "1 at 6"}, {"[.]", "1 at 0"}, {".,", "1 at 1"},
        };
        for (String[] one : all) {
            StuckSearch x = Kit.world("30 50");
            Kit.due("process " + one[0], StuckSearch.NONE, () -> Kit.process(x, one[0]));
            Kit.due("fault of " + one[0], one[1], () -> x.fault() + " at " + x.faultAt());
        }
    }

    private static void limits() {
        String twelve = "............";
        String open = "((((((((((((";
        String shut = "))))))))))))";
        String[][] all = {
            {twelve, "0 at -1"}, {twelve + ".", "2 at 12"}, {twelve + "a", "2 at 12"},
            {twelve + "ax", "2 at 12"}, {twelve + "b+", "1 at 12"}, {twelve + "x", "1 at 12"},
            {twelve + "*|()", "0 at -1"}, {twelve + "(|.", "2 at 14"}, {twelve + ")", "1 at 12"},
            {twelve + "+", "1 at 12"}, {"x" + twelve + ".", "1 at 0"}, {twelve + ".x", "2 at 12"},
            {open + shut, "0 at -1"}, {open + "(", "3 at 12"}, {open + "(x", "3 at 12"},
            {open + "a(", "1 at 13"}, {open + ")()" + shut.substring(1), "0 at -1"},
            {open + ")((", "3 at 14"}, {open, "1 at 12"}, {open + shut + ")", "1 at 24"},
            {open + shut + open + shut, "0 at -1"}, {twelve + open + ".", "2 at 24"},
            {twelve + open + "(", "3 at 24"}, {"." + open + "(", "3 at 13"},
        };
        for (String[] one : all) {
            StuckSearch x = Kit.world("30");
            Kit.due("process " + one[0], one[1].charAt(0) == '0' ? 0 : StuckSearch.NONE,
                () -> Kit.process(x, one[0]));
            Kit.due("fault of " + one[0], one[1], () -> x.fault() + " at " + x.faultAt());
        }
        StuckSearch x = Kit.world("50");
        String full = "|".repeat(99) + ".";
        Kit.due("a text of 100 bytes", 0, () -> Kit.process(x, full));
        Kit.due("its shape", "2 1 2", () -> Kit.shape(x, 0));
        Kit.due("a fault at the tape's end", StuckSearch.NONE, () -> Kit.process(x, "|".repeat(99) + "a"));
        Kit.due("which is 100", "1 at 100", () -> x.fault() + " at " + x.faultAt());
        Kit.due("stars up to the end", 1, () -> Kit.process(x, "." + "*".repeat(99)));
        Kit.due("their shape", "2 2 2", () -> Kit.shape(x, 1));
    }

    private static void faultIsOfTheLastText() {
        StuckSearch x = new StuckSearch();
        Kit.process(x, "....x");
        Kit.due("a fault", "1 at 4", () -> x.fault() + " at " + x.faultAt());
        x.wipe();
        x.feed(1, 0L);
        x.variable(2, 0);
        Kit.due("it stays until the next text", "1 at 4", () -> x.fault() + " at " + x.faultAt());
        Kit.process(x, ".(((((((((((((");
        Kit.due("another fault", "3 at 13", () -> x.fault() + " at " + x.faultAt());
        Kit.process(x, ".");
        Kit.due("no fault then", "0 at -1", () -> x.fault() + " at " + x.faultAt());
    }

    private static void sixProcessesKeepTheFault() {
        StuckSearch x = Kit.world("", ".", ".", ".", ".", ".");
        Kit.process(x, "..x");
        x.clear();
        Kit.write(x, ".");
        for (int i = 0; i < 5; i++) {
            x.process();
        }
        Kit.process(x, ".x");
        Kit.due("the fault with five", "1 at 1", () -> x.fault() + " at " + x.faultAt());
        Kit.process(x, ".");
        Kit.due("no fault with the sixth", "0 at -1", () -> x.fault() + " at " + x.faultAt());
        Kit.due("a faulty seventh", StuckSearch.NONE, () -> Kit.process(x, "x"));
        Kit.due("is not looked at", "0 at -1", () -> x.fault() + " at " + x.faultAt());
    }

    /** From each place of one process, the places that can be gone to. */
    private static void stepsGoWhereTheyShould() {
        String[][] all = {
            {"", "0:"}, {"..", "0:1 1:2 2:"}, {".*.", "0:1,2 1:1,2 2:"}, {".|..", "0:1,2 1: 2:3 3:"},
            {"(.|.).", "0:1,2 1:3 2:3 3:"}, {".(.|.)*.", "0:1 1:2,3,4 2:2,3,4 3:2,3,4 4:"},
            {"(.(.|))*.", "0:1,3 1:1,2,3 2:1,3 3:"}, {".|.*|", "0:1,2 1: 2:2"},
            {"(.*.*)*", "0:1,2 1:1,2 2:1,2"}, {"(..)*.", "0:1,3 1:2 2:1,3 3:"},
            {".()(|.).", "0:1 1:2,3 2:3 3:"}, {"(.|(..)*)*", "0:1,2 1:1,2 2:3 3:1,2"},
        };
        for (String[] one : all) {
            Kit.due("steps of " + one[0], one[1], () -> steps(Kit.world("", one[0])));
        }
    }

    /** Goes all ways of one process, each place but once. */
    private static String steps(StuckSearch x) {
        TreeMap<Integer, List<Integer>> ways = new TreeMap<>(Map.of(0, List.of()));
        TreeMap<Integer, String> steps = new TreeMap<>();
        while (steps.size() < ways.size()) {
            for (int from : List.copyOf(ways.keySet())) {
                StringBuilder targets = new StringBuilder();
                int count = go(x, ways.get(from));
                for (int k = 0; k < count; k++) {
                    go(x, ways.get(from));
                    int target = x.move(k);
                    targets.append(k == 0 ? "" : ",").append(target);
                    List<Integer> way = new ArrayList<>(ways.get(from));
                    way.add(k);
                    ways.putIfAbsent(target, way);
                }
                steps.put(from, targets.toString());
            }
        }
        StringBuilder all = new StringBuilder();
        steps.forEach((from, targets) -> all.append(' ').append(from).append(':').append(targets));
        return all.substring(1);
    }

    /** Answers how many steps are possible at the end of a way. */
    private static int go(StuckSearch x, List<Integer> way) {
        x.restart();
        way.forEach(x::move);
        return x.moves();
    }

    private static void wrongTold() {
        StuckSearch x = Kit.world("", ".", "..");
        int[] none = {2, -1, 6, Integer.MAX_VALUE, Integer.MIN_VALUE};
        for (int process : none) {
            Kit.due("told of " + process, Kit.INDEX, () -> x.told(process, 0));
            Kit.due("told 3 of " + process, Kit.INDEX, () -> x.told(process, 3));
        }
        for (int what : new int[] {3, -1, Integer.MAX_VALUE, Integer.MIN_VALUE}) {
            Kit.due("told " + what, Kit.ARGUMENT, () -> x.told(1, what));
        }
        Kit.due("told of the second", "3 2 1", () -> Kit.shape(x, 1));
    }
}
