/** Promises 1 (a new object), 2 (feed) and 3 (wipe). */
public final class TapeTest {
    public static void main(String[] args) {
        newObject();
        feedsLowestFirst();
        feedsOnlySoMany();
        refusesWrongNumbers();
        refusesMoreThanTheTapeHolds();
        wipes();
        Kit.finish();
    }

    private static void newObject() {
        StuckSearch x = new StuckSearch();
        Kit.due("new: wipe", 0, x::wipe);
        Kit.due("new: clear", 0, x::clear);
        Kit.due("new: fault", 0, x::fault);
        Kit.due("new: faultAt", StuckSearch.NONE, x::faultAt);
        Kit.due("new: product", 1, x::product);
        Kit.due("new: stuck", 1, x::stuck);
        Kit.due("new: ended", 1, x::ended);
        Kit.due("new: moves", 0, x::moves);
        Kit.due("new: restart", 0, x::restart);
        Kit.due("new: falls", true, x::falls);
        Kit.due("new: now", Kit.INDEX, () -> x.now(0));
        Kit.due("new: has", Kit.INDEX, () -> x.has(0));
        Kit.due("new: first variable", 0, () -> x.variable(2, 0));
        Kit.due("new: first process", 0, x::process);
        Kit.due("new: first process is of no thing", "1 0 1", () -> Kit.shape(x, 0));
    }

    private static void feedsLowestFirst() {
        StuckSearch x = new StuckSearch();
        x.variable(5, 0);
        Kit.due("feed a", 2, () -> x.feed(2, Kit.packed("a=")));
        Kit.due("feed b", 4, () -> x.feed(2, Kit.packed("3.")));
        Kit.due("fed text", 0, x::process);
        Kit.due("fed text's shape", "3 2 1", () -> Kit.shape(x, 0));
        x.move(0);
        Kit.due("fed text's act", 3, () -> x.has(0));
    }

    private static void feedsOnlySoMany() {
        StuckSearch x = new StuckSearch();
        Kit.due("feed 1 of 8", 1, () -> x.feed(1, Kit.packed(".xxxxxxx")));
        Kit.due("only one came", 0, x::process);
        Kit.due("feed 8 of 8", 9, () -> x.feed(8, Kit.packed("........")));
        Kit.due("all eight came", 1, x::process);
        Kit.due("their places", 10, () -> x.told(1, 0));
        x.wipe();
        Kit.due("feed with the highest bit set", 8, () -> x.feed(8, 0xFF2E2E2E2E2E2E2EL));
        Kit.due("its last byte is none of a text", StuckSearch.NONE, x::process);
        Kit.due("at the last byte", 7, x::faultAt);
        x.wipe();
        x.feed(2, 0L);
        Kit.due("bytes of 0 are bytes", 2, x::wipe);
    }

    private static void refusesWrongNumbers() {
        StuckSearch x = new StuckSearch();
        x.feed(3, Kit.packed("..."));
        for (int n : new int[] {0, 9, -1, Integer.MIN_VALUE, Integer.MAX_VALUE}) {
            Kit.due("feed " + n, Kit.ARGUMENT, () -> x.feed(n, 1L));
        }
        Kit.due("refused feeds leave the tape", 3, x::wipe);
    }

    private static void refusesMoreThanTheTapeHolds() {
        StuckSearch x = new StuckSearch();
        for (int i = 1; i <= 12; i++) {
            int bytes = 8 * i;
            Kit.due("feed up to " + bytes, bytes, () -> x.feed(8, 0L));
        }
        Kit.due("feed up to 101", StuckSearch.NONE, () -> x.feed(5, 0L));
        Kit.due("feed up to 100", 100, () -> x.feed(4, 0L));
        Kit.due("feed beyond 100", StuckSearch.NONE, () -> x.feed(1, 0L));
        Kit.due("a wrong n on a full tape", Kit.ARGUMENT, () -> x.feed(9, 0L));
        Kit.due("the tape is full still", 100, x::wipe);
        Kit.due("it can be fed anew", 1, () -> x.feed(1, 0L));
    }

    private static void wipes() {
        StuckSearch x = Kit.world("", "..");
        x.move(0);
        Kit.due("wipe", 2, x::wipe);
        Kit.due("wipe again", 0, x::wipe);
        Kit.due("the process stays", "3 2 1", () -> Kit.shape(x, 0));
        Kit.due("the state stays", 1, () -> x.now(0));
        Kit.due("an empty tape tells no thing", 1, x::process);
        Kit.due("its shape", "1 0 1", () -> Kit.shape(x, 1));
    }
}
