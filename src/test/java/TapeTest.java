/** Promises 1 (a new object), 2 (feed) and 3 (wipe). */
public final class TapeTest {
    public static void main(String[] args) {
        newObject();
        newObjectsShareNothing();
        takesTheLowestBytes();
        lowestFirst();
        comesBehindTheTape();
        answersHowManyItHas();
        refusesMoreThanTheTapeHolds();
        refusesWrongNumbers();
        wipes();
        wipesATapeOfAnyLength();
        wipesTheTapeAlone();
        Kit.finish();
    }

    private static void newObject() {
        Kit.says("No variables, no processes, an empty tape.");
        StuckSearch x = new StuckSearch();
        Kit.due("has", Kit.INDEX, () -> x.has(0));
        Kit.due("now", Kit.INDEX, () -> x.now(0));
        Kit.due("told", Kit.INDEX, () -> x.told(0, 0));
        Kit.due("fault", "0 at -1", () -> Kit.fault(x));
        Kit.due("product", 1, x::product);
        Kit.due("stuck", 1, x::stuck);
        Kit.due("ended", 1, x::ended);
        Kit.due("place", Kit.INDEX, () -> x.place(0, 0));
        Kit.due("value", Kit.INDEX, () -> x.value(0, 0));
        Kit.due("moves", 0, x::moves);
        Kit.due("move", Kit.INDEX, () -> x.move(0));
        Kit.due("falls", true, x::falls);
        Kit.due("restart", 0, x::restart);
        Kit.due("clear", 0, x::clear);
        Kit.due("wipe", 0, x::wipe);
        Kit.due("first variable", 0, () -> x.variable(2, 0));
        Kit.due("first process", 0, x::process);
        Kit.due("it is told by no thing", "1 0 1", () -> Kit.shape(x, 0));
        StuckSearch y = new StuckSearch();
        Kit.due("process as the first call", 0, y::process);
        Kit.due("it is told by no thing", "1 0 1", () -> Kit.shape(y, 0));
    }

    private static void newObjectsShareNothing() {
        Kit.says("No variables, no processes, an empty tape.");
        StuckSearch used = Kit.world("31", "a+", "a-");
        used.move(0);
        used.stuck();
        Kit.process(used, "..x");
        StuckSearch x = new StuckSearch();
        Kit.due("wipe", 0, x::wipe);
        Kit.due("fault", "0 at -1", () -> Kit.fault(x));
        Kit.due("stuck", 1, x::stuck);
        Kit.due("variable", 0, () -> x.variable(2, 0));
        Kit.due("process", 0, x::process);
        x.restart();
        x.clear();
        Kit.due("the used one has its state", "1,0/2", () -> Kit.now(used, 2, 1));
        Kit.due("and its fault", "1 at 2", () -> Kit.fault(used));
        Kit.due("and its stuck states", "1,1/1", () -> Kit.standing(used, 2, 1));
        Kit.due("and its steps", 1, used::restart);
        Kit.due("and its tape", 3, used::wipe);
    }

    private static void takesTheLowestBytes() {
        Kit.says("The n lowest bytes of a long, the lowest first, come behind the tape.");
        for (int n = 1; n <= 8; n++) {
            StuckSearch x = new StuckSearch();
            int count = n;
            // All bytes above the n lowest ones are x, which no text can have.
            long bytes = Kit.packed(".".repeat(n) + "x".repeat(8 - n));
            Kit.due("feed " + n, n, () -> x.feed(count, bytes));
            Kit.due("process of " + n, 0, x::process);
            Kit.due("places of " + n, n + 1, () -> x.told(0, 0));
        }
        StuckSearch y = new StuckSearch();
        y.feed(8, 0xFF2E2E2E2E2E2E2EL);
        Kit.due("a highest byte of 255", StuckSearch.NONE, y::process);
        Kit.due("is the last one", 7, y::faultAt);
        y.wipe();
        y.feed(7, 0xFF2E2E2E2E2E2E2EL);
        Kit.due("and does not come with n = 7", 0, y::process);
        y.wipe();
        y.feed(2, 0L);
        Kit.due("bytes of 0 are bytes", 2, y::wipe);
    }

    private static void lowestFirst() {
        Kit.says("the lowest first");
        for (int at = 0; at < 8; at++) {
            StuckSearch x = new StuckSearch();
            long bytes = Kit.packed(".".repeat(at) + "x" + ".".repeat(7 - at));
            x.feed(8, bytes);
            x.process();
            Kit.due("the wrong byte's place", at, x::faultAt);
        }
        StuckSearch y = Kit.world("50");
        y.wipe();
        y.feed(3, 0x333d61L);
        Kit.due("a=3", 0, y::process);
        y.move(0);
        Kit.due("a", 3, () -> y.has(0));
    }

    private static void comesBehindTheTape() {
        Kit.says("come behind the tape");
        StuckSearch x = Kit.world("50");
        x.wipe();
        x.feed(1, Kit.packed("a"));
        x.feed(2, Kit.packed("=4"));
        x.feed(8, Kit.packed("(.)*(.)*"));
        x.feed(1, Kit.packed("x"));
        Kit.due("the fault", StuckSearch.NONE, x::process);
        Kit.due("is behind all", "1 at 11", () -> Kit.fault(x));
    }

    private static void answersHowManyItHas() {
        Kit.says("Answers how many it has");
        StuckSearch x = new StuckSearch();
        int length = 0;
        for (int n = 1; n <= 8; n++) {
            int count = n;
            length += n;
            Kit.due("feed " + n, length, () -> x.feed(count, 0L));
        }
    }

    private static void refusesMoreThanTheTapeHolds() {
        Kit.says("NONE when there would be more than 100");
        for (int had = 92; had <= 100; had++) {
            for (int n = 1; n <= 8; n++) {
                StuckSearch x = new StuckSearch();
                int count = n;
                Kit.write(x, ".".repeat(had));
                int want = had + n > 100 ? StuckSearch.NONE : had + n;
                Kit.due("feed " + n + " behind " + had, want, () -> x.feed(count, 0L));
                Kit.due("length then", had + n > 100 ? had : had + n, x::wipe);
            }
        }
        StuckSearch y = new StuckSearch();
        Kit.write(y, "|".repeat(99));
        Kit.due("feed 2 behind 99", StuckSearch.NONE, () -> y.feed(2, Kit.packed(".x")));
        Kit.due("no part of it came", 0, y::process);
        Kit.due("its shape", "1 0 1", () -> Kit.shape(y, 0));
        Kit.due("feed 1 behind 99", 100, () -> y.feed(1, Kit.packed(".")));
        Kit.due("the hundredth byte is read", 1, y::process);
        Kit.due("its shape", "2 1 2", () -> Kit.shape(y, 1));
        y.wipe();
        Kit.due("it can be fed anew", 8, () -> y.feed(8, 0L));
    }

    private static void refusesWrongNumbers() {
        Kit.says("IllegalArgumentException: n is not 1 to 8.");
        for (int had : new int[] {0, 3, 100}) {
            StuckSearch x = new StuckSearch();
            Kit.write(x, ".".repeat(had));
            for (int n : new int[] {0, 9, -1, -8, 16, 256 + 1, Integer.MIN_VALUE, Integer.MAX_VALUE}) {
                Kit.due("feed " + n + " behind " + had, Kit.ARGUMENT, () -> x.feed(n, 0x2E2EL));
            }
            Kit.due("the tape stays", had, x::wipe);
        }
        StuckSearch y = new StuckSearch();
        Kit.due("feed 1", 1, () -> y.feed(1, 0L));
        Kit.due("feed 8", 9, () -> y.feed(8, 0L));
    }

    private static void wipes() {
        Kit.says("The tape is empty then.");
        StuckSearch x = new StuckSearch();
        Kit.write(x, "..x");
        x.wipe();
        Kit.due("wipe again", 0, x::wipe);
        Kit.due("an empty tape tells no thing", 0, x::process);
        Kit.due("its shape", "1 0 1", () -> Kit.shape(x, 0));
        Kit.due("feed", 1, () -> x.feed(1, Kit.packed(".")));
        Kit.due("what was wiped is not behind it", 1, x::process);
        Kit.due("its shape", "2 1 1", () -> Kit.shape(x, 1));
        x.wipe();
        x.feed(1, Kit.packed("("));
        x.process();
        Kit.due("the text's end is the tape's", "1 at 1", () -> Kit.fault(x));
    }

    private static void wipesATapeOfAnyLength() {
        Kit.says("Answers how many bytes it had.");
        for (int had : new int[] {0, 1, 8, 9, 99, 100}) {
            StuckSearch x = new StuckSearch();
            Kit.write(x, ".".repeat(had));
            Kit.due("wipe", had, x::wipe);
            Kit.due("wipe again", 0, x::wipe);
        }
    }

    private static void wipesTheTapeAlone() {
        Kit.says("The tape is empty then.");
        StuckSearch x = Kit.world("32", "a-a-");
        x.move(0);
        Kit.process(x, "a*");
        Kit.due("wipe", 2, x::wipe);
        Kit.due("the process stays", "3 2 1", () -> Kit.shape(x, 0));
        Kit.due("the state stays", "1/1", () -> Kit.now(x, 1, 1));
        Kit.due("the fault stays", "1 at 1", () -> Kit.fault(x));
        Kit.due("the stuck states stay", "2/0", () -> Kit.standing(x, 1, 1));
        Kit.due("the steps gone stay", 1, x::restart);
    }
}
