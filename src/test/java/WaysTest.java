import java.util.HashMap;
import java.util.HashSet;
import java.util.Map;
import java.util.Set;
import java.util.TreeSet;

/** The document's first sentence: what is told of a world is what single steps come to. */
public final class WaysTest {
    private static final int LONGEST_WAY = 100;

    private final String variables;
    private final String[] texts;
    /** A shortest way to each state that steps come to, as the numbers that move() takes. */
    private final Map<String, String> ways = new HashMap<>();
    private final Set<String> standing = new TreeSet<>();
    private final Set<String> falling = new HashSet<>();

    private WaysTest(String variables, String... texts) {
        this.variables = variables;
        this.texts = texts;
    }

    public static void main(String[] args) {
        new WaysTest("").check();
        new WaysTest("21").check();
        new WaysTest("", "").check();
        new WaysTest("", "..|(.|)*").check();
        new WaysTest("21 21", "(a-b-a+b+)*", "(b-a-b+a+)*").check();
        new WaysTest("21 21 21", "a-b-a+b+", "b-c-b+c+", "c-a-c+a+").check();
        new WaysTest("30", "(a+|a-.)*", "a?2.", "a!1a=0").check();
        new WaysTest("30", "a+.*|.a?2|a=2", "(a!0|.)a-|.").check();
        new WaysTest("53 20", "(a-|b?1a=4)*", "(b+a!2|b-)*a?0").check();
        new WaysTest("20 20 41", "a+(c-|b?1.)*", "b=1a?1c=0|c+*", "(a-b-|.)c!3").check();
        Kit.finish();
    }

    private void check() {
        goAllWays();
        markFalling();
        Kit.says("of all states that can be come to those are told from which no step is possible, with where each"
            + " process and variable is then; single steps can be gone, too");
        Kit.due("stuck states of " + String.join(" ", texts), String.join(" ", standing),
            () -> Kit.standing(world(), texts.length, variableCount()));
        Kit.says("Whether the state now is one of the stuck ones, or one of them can be come to from it.");
        for (String state : ways.keySet()) {
            Kit.due("falls at " + state + " of " + String.join(" ", texts), falling.contains(state),
                () -> at(state).falls());
        }
    }

    private StuckSearch world() {
        return Kit.world(variables, texts);
    }

    private int variableCount() {
        return variables.isEmpty() ? 0 : variables.split(" ").length;
    }

    private String now(StuckSearch x) {
        return Kit.now(x, texts.length, variableCount());
    }

    /** A new object each time, since none is used for more than 512 calls. */
    private StuckSearch at(String state) {
        StuckSearch x = world();
        for (String step : ways.get(state).split(" ")) {
            if (!step.isEmpty()) {
                x.move(Integer.parseInt(step));
            }
        }
        return x;
    }

    private void goAllWays() {
        String first = now(world());
        ways.put(first, "");
        Set<String> waiting = Set.of(first);
        for (int length = 0; length < LONGEST_WAY && !waiting.isEmpty(); length++) {
            Set<String> found = new HashSet<>();
            for (String state : waiting) {
                steppedFrom(state).forEach((next, step) -> {
                    if (ways.putIfAbsent(next, ways.get(state) + " " + step) == null) {
                        found.add(next);
                    }
                });
            }
            waiting = found;
        }
    }

    /** The states that one step comes to, and the step's number. */
    private Map<String, Integer> steppedFrom(String state) {
        Map<String, Integer> next = new HashMap<>();
        int count = at(state).moves();
        for (int k = 0; k < count; k++) {
            StuckSearch x = at(state);
            x.move(k);
            next.put(now(x), k);
        }
        if (count == 0) {
            standing.add(state);
        }
        return next;
    }

    private void markFalling() {
        falling.addAll(standing);
        Map<String, Set<String>> steps = new HashMap<>();
        ways.keySet().forEach(state -> steps.put(state, steppedFrom(state).keySet()));
        int before = -1;
        while (before != falling.size()) {
            before = falling.size();
            steps.forEach((state, next) -> {
                if (next.stream().anyMatch(falling::contains)) {
                    falling.add(state);
                }
            });
        }
    }
}
