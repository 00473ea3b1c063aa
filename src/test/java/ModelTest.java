/** All promises: runs of 512 mixed calls, each answered by the program and by the model. */
public final class ModelTest {
    private static final int RUNS = 400;
    private static final int CALLS = 512;

    private long seed;
    private final StuckSearch x = new StuckSearch();
    private final Model m = new Model();
    private final StringBuilder log = new StringBuilder();
    private int calls;

    private ModelTest(long seed) {
        this.seed = seed;
    }

    public static void main(String[] args) {
        for (int run = 1; run <= RUNS; run++) {
            ModelTest test = new ModelTest(run * 7919L);
            int limit = run % 20 == 0 ? 30000 : 300;
            while (test.calls < CALLS) {
                if (!test.agree(limit)) {
                    System.out.println("run " + run + ":\n" + test.log);
                    System.exit(1);
                }
            }
        }
    }

    /** The same numbers in each run of the test. */
    private int random(int below) {
        seed = seed * 6364136223846793005L + 1442695040888963407L;
        return (int) ((seed >>> 33) % below);
    }

    private int index(int count) {
        return random(12) == 0 ? random(20) - 5 : random(count);
    }

    private boolean agree(int limit) {
        int product = m.product();
        if (product != -2 && product > limit && random(4) != 0) {
            return same("clear()", m::clear, x::clear);
        }
        switch (random(24)) {
            case 0, 1, 2:
                return newText();
            case 3, 4:
                return same("process()", m::process, x::process);
            case 5:
                int size = random(10) == 0 ? random(9) - 1 : 2 + random(4);
                int first = random(10) == 0 ? random(9) - 2 : random(Math.max(1, size));
                return same("variable(" + size + ", " + first + ")",
                    () -> m.variable(size, first), () -> x.variable(size, first));
            case 6:
                return random(6) != 0 || same("clear()", m::clear, x::clear);
            case 7:
                return same("fault()", m::fault, x::fault) && same("faultAt()", m::faultAt, x::faultAt);
            case 8:
                int told = index(3);
                int what = index(3);
                return same("told(" + told + ", " + what + ")", () -> m.told(told, what), () -> x.told(told, what));
            case 9:
                return same("product()", m::product, x::product);
            case 10:
                return same("stuck()", m::stuck, x::stuck) && same("ended()", m::ended, x::ended);
            case 11, 12, 13:
                return sameState(index(4), index(3));
            case 14:
                return same("moves()", m::moves, x::moves);
            case 15, 16, 17, 18:
                int step = index(Math.max(1, m.moves()));
                return same("move(" + step + ")", () -> m.move(step), () -> x.move(step));
            case 19:
                return random(3) != 0 || same("restart()", m::restart, x::restart);
            case 20:
                int process = index(3);
                return same("now(" + process + ")", () -> m.now(process), () -> x.now(process));
            case 21:
                int variable = index(3);
                return same("has(" + variable + ")", () -> m.has(variable), () -> x.has(variable));
            default:
                return same("falls()", m::falls, x::falls);
        }
    }

    private boolean sameState(int k, int number) {
        return same("place(" + k + ", " + number + ")", () -> m.place(k, number), () -> x.place(k, number))
            && same("value(" + k + ", " + number + ")", () -> m.value(k, number), () -> x.value(k, number));
    }

    private boolean newText() {
        if (random(8) != 0 && !same("wipe()", m::wipe, x::wipe)) {
            return false;
        }
        StringBuilder text = new StringBuilder();
        addText(text, 0);
        if (random(4) == 0 && text.length() > 0) {
            spoil(text);
        }
        int from = 0;
        while (from < text.length()) {
            int n = Math.min(1 + random(8), text.length() - from);
            long bytes = Kit.packed(text.substring(from, from + n)) | (n < 8 ? (long) random(256) << 8 * n : 0);
            from += n;
            if (!same("feed(" + n + ", " + bytes + ")", () -> m.feed(n, bytes), () -> x.feed(n, bytes))) {
                return false;
            }
        }
        return random(3) == 0 || same("process()", m::process, x::process);
    }

    private void addText(StringBuilder text, int depth) {
        int choices = 1 + random(6) / 3;
        for (int c = 0; c < choices; c++) {
            text.append(c == 0 ? "" : "|");
            int things = random(8) == 0 ? 0 : 1 + random(3);
            for (int t = 0; t < things; t++) {
                addThing(text, depth);
            }
        }
    }

    private void addThing(StringBuilder text, int depth) {
        if (depth < 4 && random(3) == 0) {
            text.append('(');
            addText(text, depth + 1);
            text.append(')');
        } else {
            addAct(text);
        }
        while (random(5) == 0) {
            text.append('*');
        }
    }

    private void addAct(StringBuilder text) {
        int kind = random(6);
        if (kind == 0) {
            text.append('.');
            return;
        }
        text.append((char) ('a' + random(random(4) == 0 ? 5 : 2))).append(" +-=?!".charAt(kind));
        if (kind > 2) {
            text.append((char) ('0' + random(random(4) == 0 ? 5 : 2)));
        }
    }

    private void spoil(StringBuilder text) {
        int at = random(text.length());
        String bytes = "()|*.abcde+-=?!01234 x\u00ff";
        char other = bytes.charAt(random(bytes.length()));
        switch (random(3)) {
            case 0 -> text.setCharAt(at, other);
            case 1 -> text.insert(at, other);
            default -> text.deleteCharAt(at);
        }
    }

    /** Nothing is promised behind the last call, so nothing is asked then. */
    private boolean same(String call, Kit.Call wanted, Kit.Call got) {
        if (calls >= CALLS) {
            return true;
        }
        calls++;
        String want = Kit.answer(wanted);
        String have = Kit.answer(got);
        log.append(call).append(' ').append(have).append('\n');
        if (want.equals(have)) {
            return true;
        }
        log.append("the model answers ").append(want).append('\n');
        return false;
    }
}
