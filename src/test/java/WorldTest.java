/** Promises 4 (variable), 5 (process: how many, and what it leaves) and 8 (clear). */
public final class WorldTest {
    public static void main(String[] args) {
        numbersVariables();
        atMostFiveVariables();
        refusesWrongVariables();
        valuesReachFromNothingToSizeLessOne();
        numbersProcesses();
        processesBeginAtNothing();
        atMostSixProcesses();
        tapeStays();
        emptyTapeIsNoThing();
        faultyTextGivesNoProcess();
        clears();
        clearAnswersProcesses();
        clearKeepsTheTape();
        clearKeepsTheFault();
        limitsAreTheSameBehindClear();
        Kit.finish();
    }

    private static void numbersVariables() {
        Kit.says("A variable more. Answers its number");
        StuckSearch x = new StuckSearch();
        int[][] all = {{2, 1}, {3, 2}, {4, 3}, {5, 4}, {5, 0}};
        for (int i = 0; i < all.length; i++) {
            int[] one = all[i];
            Kit.due("variable", i, () -> x.variable(one[0], one[1]));
        }
        Kit.due("the first values", "/1,2,3,4,0", () -> Kit.now(x, 0, 5));
        Kit.due("the product of the sizes", 600, x::product);
    }

    private static void atMostFiveVariables() {
        Kit.says("NONE when there are 5");
        StuckSearch x = Kit.world("20 20 20 20");
        Kit.due("a fifth", 4, () -> x.variable(3, 2));
        Kit.due("a sixth", StuckSearch.NONE, () -> x.variable(2, 1));
        Kit.due("a seventh", StuckSearch.NONE, () -> x.variable(5, 4));
        Kit.due("the product stays", 48, x::product);
        Kit.due("the values stay", "/0,0,0,0,2", () -> Kit.now(x, 0, 5));
        Kit.due("no sixth has come", Kit.INDEX, () -> x.has(5));
    }

    private static void refusesWrongVariables() {
        Kit.says("IllegalArgumentException: size is not 2 to 5, or first not 0 to the size less 1.");
        int[] numbers = {Integer.MIN_VALUE, -2, -1, 0, 1, 2, 3, 4, 5, 6, 7, 258, Integer.MAX_VALUE};
        for (int size : numbers) {
            for (int first : numbers) {
                boolean right = size >= 2 && size <= 5 && first >= 0 && first < size;
                StuckSearch x = new StuckSearch();
                Kit.due("variable " + size + " " + first, right ? 0 : Kit.ARGUMENT, () -> x.variable(size, first));
                Kit.due("its first value", right ? first : Kit.INDEX, () -> x.has(0));
                Kit.due("the product", right ? size : 1, x::product);
            }
        }
        StuckSearch full = Kit.world("20 20 20 20 20");
        Kit.due("a wrong size when there are 5", Kit.ARGUMENT, () -> full.variable(6, 0));
        Kit.due("a wrong first value when there are 5", Kit.ARGUMENT, () -> full.variable(2, 2));
    }

    private static void valuesReachFromNothingToSizeLessOne() {
        Kit.says("VARIABLES, 5 at most, have values from 0 up to their SIZE less 1, and a first value.");
        for (int size = 2; size <= 5; size++) {
            for (int first = 0; first < size; first++) {
                StuckSearch x = Kit.world(size + "" + first, "a+*", "a-*");
                int ups = size - 1 - first;
                for (int i = 0; i < ups; i++) {
                    Kit.due("one greater", 1, () -> x.move(0));
                }
                Kit.due("the greatest value", size - 1, () -> x.has(0));
                Kit.due("no greater one", 17, () -> x.move(0));
                for (int i = size - 2; i > 0; i--) {
                    Kit.due("one less", 17, () -> x.move(1));
                }
                Kit.due("the least value", 0, () -> x.has(0));
                Kit.due("no less one", Kit.INDEX, () -> x.move(1));
            }
        }
    }

    private static void numbersProcesses() {
        Kit.says("A process more, told by the tape");
        StuckSearch x = new StuckSearch();
        String[] texts = {"", ".", "..", "...", "....", "....."};
        for (int i = 0; i < texts.length; i++) {
            String text = texts[i];
            Kit.due("process " + i, i, () -> Kit.process(x, text));
        }
        for (int i = 0; i < texts.length; i++) {
            int number = i;
            Kit.due("places of " + i, i + 1, () -> x.told(number, 0));
        }
    }

    private static void processesBeginAtNothing() {
        Kit.says("PROCESSES, 6 at most, have PLACES, 0 at first.");
        StuckSearch x = Kit.world("", "..", ".", "", ".*", "(.)", "|.");
        Kit.due("places", "0,0,0,0,0,0/", () -> Kit.now(x, 6, 0));
    }

    private static void atMostSixProcesses() {
        Kit.says("NONE when there are 6");
        StuckSearch x = Kit.world("", "..", "..", "..", "..", "..");
        Kit.due("a sixth", 5, x::process);
        x.move(0);
        Kit.due("a seventh", StuckSearch.NONE, x::process);
        Kit.due("an eighth", StuckSearch.NONE, x::process);
        Kit.due("the state stays", "1,0,0,0,0,0/", () -> Kit.now(x, 6, 0));
        Kit.due("the product stays", 729, x::product);
        Kit.due("no seventh has come", Kit.INDEX, () -> x.now(6));
        Kit.due("nor is one told", Kit.INDEX, () -> x.told(6, 0));
        Kit.due("the steps gone stay", 1, x::restart);
    }

    private static void tapeStays() {
        Kit.says("which stays");
        StuckSearch x = Kit.world("20");
        Kit.write(x, ".a+");
        Kit.due("process", 0, x::process);
        Kit.due("the same text again", 1, x::process);
        Kit.due("its shape", "3 2 1", () -> Kit.shape(x, 1));
        Kit.due("bytes come behind it", 4, () -> x.feed(1, Kit.packed("b")));
        Kit.due("a fault", StuckSearch.NONE, x::process);
        Kit.due("leaves it too", 4, x::wipe);
        StuckSearch y = Kit.world("", ".", ".", ".", ".", ".", ".");
        y.process();
        Kit.due("a seventh process leaves it too", 1, y::wipe);
    }

    private static void emptyTapeIsNoThing() {
        Kit.says("an empty one is a text of no thing");
        StuckSearch x = new StuckSearch();
        for (int i = 0; i < 6; i++) {
            int number = i;
            Kit.due("process", i, x::process);
            Kit.due("its shape", "1 0 1", () -> Kit.shape(x, number));
        }
        Kit.due("no fault", "0 at -1", () -> Kit.fault(x));
        Kit.due("product", 1, x::product);
        Kit.due("all stand at ends", "0,0,0,0,0,0/", () -> Kit.standing(x, 6, 0));
        Kit.due("ended", 1, x::ended);
    }

    private static void faultyTextGivesNoProcess() {
        Kit.says("NONE when there are 6, or the text has a fault.");
        String[] faulty = {"a+x", "............a", "(((((((((((((", "a+("};
        for (String text : faulty) {
            StuckSearch x = Kit.world("30", "a+a+");
            x.move(0);
            Kit.due("a faulty process", StuckSearch.NONE, () -> Kit.process(x, text));
            Kit.due("no process came", Kit.INDEX, () -> x.now(1));
            Kit.due("the state stays", "1/1", () -> Kit.now(x, 1, 1));
            Kit.due("the product stays", 9, x::product);
            Kit.due("the shape stays", "3 2 1", () -> Kit.shape(x, 0));
            Kit.due("the stuck states stay", "2/2", () -> Kit.standing(x, 1, 1));
            Kit.due("the steps gone stay", 1, x::restart);
            Kit.due("the next has the number", 1, () -> Kit.process(x, "a-"));
            Kit.due("and its own shape", "2 1 1", () -> Kit.shape(x, 1));
            Kit.due("and its own steps", "2,1/1", () -> Kit.standing(x, 2, 1));
        }
    }

    private static void clears() {
        Kit.says("No variables, no processes; the tape stays.");
        StuckSearch x = Kit.world("54 21", "a-", "b-a-");
        x.move(0);
        x.stuck();
        x.falls();
        x.clear();
        Kit.due("no process", Kit.INDEX, () -> x.now(0));
        Kit.due("none is told", Kit.INDEX, () -> x.told(0, 0));
        Kit.due("no variable", Kit.INDEX, () -> x.has(0));
        Kit.due("product", 1, x::product);
        Kit.due("stuck", 1, x::stuck);
        Kit.due("ended", 1, x::ended);
        Kit.due("moves", 0, x::moves);
        Kit.due("no steps were gone", 0, x::restart);
        Kit.due("a letter is none now", StuckSearch.NONE, () -> Kit.process(x, "a+"));
        Kit.due("a point needs no variable", 0, () -> Kit.process(x, ".|..|.*|."));
        Kit.due("stuck behind it", "1/ 3/ 5/", () -> Kit.standing(x, 1, 0));
        Kit.due("falls to it", true, x::falls);
        x.move(2);
        Kit.due("or goes on", false, x::falls);
        Kit.due("variables are counted anew", 0, () -> x.variable(3, 1));
        Kit.due("with their values", "0/1", () -> Kit.now(x, 1, 1));
        Kit.due("and sizes", 18, x::product);
    }

    private static void clearAnswersProcesses() {
        Kit.says("Answers how many processes there were.");
        StuckSearch x = new StuckSearch();
        for (int count = 0; count <= 6; count++) {
            x.variable(2, 0);
            for (int i = 0; i < count; i++) {
                x.process();
            }
            Kit.due("clear", count, x::clear);
            Kit.due("clear again", 0, x::clear);
        }
        Kit.process(x, "x");
        Kit.due("a faulty one is none", 0, x::clear);
    }

    private static void clearKeepsTheTape() {
        Kit.says("the tape stays");
        StuckSearch x = Kit.world("20", ".a+");
        x.clear();
        Kit.due("its letter is none now", StuckSearch.NONE, x::process);
        Kit.due("at its place", "1 at 1", () -> Kit.fault(x));
        x.variable(2, 0);
        Kit.due("the text can be told again", 0, x::process);
        x.clear();
        Kit.due("its length", 3, x::wipe);
    }

    private static void clearKeepsTheFault() {
        Kit.says("clear changes nothing here");
        String[][] all = {{"..x", "1 at 2"}, {".............", "2 at 12"}, {"(((((((((((((", "3 at 12"}, {"", "0 at -1"}};
        for (String[] one : all) {
            StuckSearch x = new StuckSearch();
            Kit.process(x, one[0]);
            x.clear();
            Kit.due("fault", one[1], () -> Kit.fault(x));
            x.clear();
            Kit.due("fault", one[1], () -> Kit.fault(x));
        }
    }

    private static void limitsAreTheSameBehindClear() {
        Kit.says("No variables, no processes");
        StuckSearch x = Kit.world("50 50 50 50 50", "", "", "", "", "", "");
        x.clear();
        for (int i = 0; i < 5; i++) {
            int number = i;
            Kit.due("variable", i, () -> x.variable(2, 1));
            Kit.due("process", i, x::process);
            Kit.due("its place", 0, () -> x.now(number));
        }
        Kit.due("a sixth variable", StuckSearch.NONE, () -> x.variable(2, 1));
        Kit.due("a sixth process", 5, x::process);
        Kit.due("a seventh process", StuckSearch.NONE, x::process);
        Kit.due("the product of the new sizes", 32, x::product);
    }
}
