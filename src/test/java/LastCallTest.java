/** "An object is used for at most 512 calls after it has been made": the last ones are answered as the first. */
public final class LastCallTest {
    private static final int CALLS = 512;

    public static void main(String[] args) {
        Kit.says("An object is used for at most 512 calls after it has been made");
        stepsUpToTheLastCall();
        bytesUpToTheLastCall();
        faultsUpToTheLastCall();
        worldsUpToTheLastCall();
        searchesUpToTheLastCall();
        Kit.finish();
    }

    private static void stepsUpToTheLastCall() {
        StuckSearch x = new StuckSearch();
        x.feed(2, Kit.packed(".*"));
        x.process();
        for (int call = 3; call < CALLS; call++) {
            Kit.due("move as call " + call, 1, () -> x.move(0));
        }
        Kit.due("restart as the last call", CALLS - 3, x::restart);
    }

    private static void bytesUpToTheLastCall() {
        StuckSearch x = new StuckSearch();
        for (int call = 1; call < CALLS; call++) {
            int length = (call - 1) % 102 + 1;
            if (length == 102) {
                Kit.due("wipe as call " + call, 100, x::wipe);
            } else {
                Kit.due("feed as call " + call, length == 101 ? StuckSearch.NONE : length, () -> x.feed(1, 46L));
            }
        }
        Kit.due("feed as the last call", 2, () -> x.feed(1, 46L));
    }

    private static void faultsUpToTheLastCall() {
        StuckSearch x = new StuckSearch();
        x.feed(2, Kit.packed(".x"));
        for (int call = 2; call < CALLS; call++) {
            Kit.due("process as call " + call, StuckSearch.NONE, x::process);
        }
        Kit.due("faultAt as the last call", 1, x::faultAt);
    }

    private static void worldsUpToTheLastCall() {
        StuckSearch x = new StuckSearch();
        x.feed(1, 46L);
        int rounds = (CALLS - 1) / 13;
        for (int round = 0; round < rounds; round++) {
            for (int i = 0; i < 5; i++) {
                Kit.due("variable in round " + round, i, () -> x.variable(2, 1));
            }
            for (int i = 0; i < 6; i++) {
                Kit.due("process in round " + round, i, x::process);
            }
            Kit.due("product in round " + round, 2048, x::product);
            Kit.due("clear in round " + round, 6, x::clear);
        }
        for (int call = 1 + 13 * rounds; call < CALLS; call++) {
            Kit.due("clear as call " + (call + 1), 0, x::clear);
        }
    }

    /** Each round searches a new world of 28561 states. */
    private static void searchesUpToTheLastCall() {
        StuckSearch x = new StuckSearch();
        x.feed(8, Kit.packed("........"));
        x.feed(4, Kit.packed("...."));
        for (int round = 0; round < 51; round++) {
            for (int p = 0; p < 4; p++) {
                x.process();
            }
            Kit.due("falls in round " + round, true, x::falls);
            Kit.due("place in round " + round, 12, () -> x.place(0, 3));
            Kit.due("stuck in round " + round, 1, x::stuck);
            Kit.due("ended in round " + round, 1, x::ended);
            Kit.due("move in round " + round, 49, () -> x.move(3));
            Kit.due("clear in round " + round, 4, x::clear);
        }
    }
}
