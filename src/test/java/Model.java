import java.util.ArrayDeque;
import java.util.ArrayList;
import java.util.Arrays;
import java.util.Comparator;
import java.util.HashSet;
import java.util.List;
import java.util.Set;
import java.util.TreeMap;
import java.util.TreeSet;

/** The document told once more, with sets and without any care for speed, to compare with. */
final class Model {
    private final List<Integer> tape = new ArrayList<>();
    private final List<int[]> variables = new ArrayList<>();
    private final List<Told> processes = new ArrayList<>();
    private int fault = 0;
    private int faultAt = -1;
    private List<Integer> now = new ArrayList<>();
    private int gone = 0;

    /** A process: its acts, place 1 first, its steps as {from, to}, and its ends. */
    private static final class Told {
        final List<String> acts = new ArrayList<>();
        final TreeMap<Integer, TreeSet<Integer>> steps = new TreeMap<>();
        final Set<Integer> ends = new TreeSet<>();

        void link(Set<Integer> from, Set<Integer> to) {
            for (int place : from) {
                steps.computeIfAbsent(place, p -> new TreeSet<>()).addAll(to);
            }
        }
    }

    private static final class Bit {
        boolean nothing;
        final Set<Integer> first = new TreeSet<>();
        final Set<Integer> last = new TreeSet<>();
    }

    private static final class Faulty extends Exception {
        private static final long serialVersionUID = 1L;
        final int kind;
        final int at;

        Faulty(int kind, int at) {
            this.kind = kind;
            this.at = at;
        }
    }

    /** A reader that goes down into texts by calling itself. */
    private final class Parser {
        final Told told = new Told();
        int at = 0;

        int peek() {
            return at < tape.size() ? tape.get(at) : -1;
        }

        Bit text(int open) throws Faulty {
            Bit all = row(open);
            while (peek() == '|') {
                at++;
                Bit other = row(open);
                all.nothing |= other.nothing;
                all.first.addAll(other.first);
                all.last.addAll(other.last);
            }
            return all;
        }

        Bit row(int open) throws Faulty {
            Bit row = new Bit();
            row.nothing = true;
            while (peek() != '|' && peek() != ')' && peek() != -1) {
                Bit next = thing(open);
                told.link(row.last, next.first);
                if (row.nothing) {
                    row.first.addAll(next.first);
                }
                if (!next.nothing) {
                    row.last.clear();
                }
                row.last.addAll(next.last);
                row.nothing = row.nothing && next.nothing;
            }
            return row;
        }

        Bit thing(int open) throws Faulty {
            Bit thing = peek() == '(' ? inner(open) : act();
            while (peek() == '*') {
                at++;
                told.link(thing.last, thing.first);
                thing.nothing = true;
            }
            return thing;
        }

        Bit inner(int open) throws Faulty {
            if (open == 12) {
                throw new Faulty(3, at);
            }
            at++;
            Bit inner = text(open + 1);
            if (peek() != ')') {
                throw new Faulty(1, at);
            }
            at++;
            return inner;
        }

        Bit act() throws Faulty {
            int letter = peek();
            if (letter != '.' && (letter < 'a' || letter >= 'a' + variables.size())) {
                throw new Faulty(1, at);
            }
            if (told.acts.size() == 12) {
                throw new Faulty(2, at);
            }
            at++;
            String act = "" + (char) letter;
            if (letter != '.') {
                act += take("+-=?!");
                if ("=?!".indexOf(act.charAt(1)) >= 0) {
                    act += take("01234".substring(0, variables.get(letter - 'a')[0]));
                }
            }
            told.acts.add(act);
            Bit bit = new Bit();
            bit.first.add(told.acts.size());
            bit.last.add(told.acts.size());
            return bit;
        }

        char take(String allowed) throws Faulty {
            if (peek() < 0 || allowed.indexOf(peek()) < 0) {
                throw new Faulty(1, at);
            }
            return (char) (int) tape.get(at++);
        }
    }

    int feed(int n, long bytes) {
        if (n < 1 || n > 8) {
            throw new IllegalArgumentException();
        }
        if (tape.size() + n > 100) {
            return -1;
        }
        for (int i = 0; i < n; i++) {
            tape.add((int) (bytes >> 8 * i & 255));
        }
        return tape.size();
    }

    int wipe() {
        int had = tape.size();
        tape.clear();
        return had;
    }

    int variable(int size, int first) {
        if (size < 2 || size > 5 || first < 0 || first > size - 1) {
            throw new IllegalArgumentException();
        }
        if (variables.size() == 5) {
            return -1;
        }
        variables.add(new int[] {size, first});
        restart();
        return variables.size() - 1;
    }

    int process() {
        if (processes.size() == 6) {
            return -1;
        }
        Parser parser = new Parser();
        try {
            Bit whole = parser.text(0);
            if (parser.at < tape.size()) {
                throw new Faulty(1, parser.at);
            }
            parser.told.link(Set.of(0), whole.first);
            parser.told.ends.addAll(whole.last);
            if (whole.nothing) {
                parser.told.ends.add(0);
            }
        } catch (Faulty e) {
            fault = e.kind;
            faultAt = e.at;
            return -1;
        }
        fault = 0;
        faultAt = -1;
        processes.add(parser.told);
        restart();
        return processes.size() - 1;
    }

    int fault() {
        return fault;
    }

    int faultAt() {
        return faultAt;
    }

    int clear() {
        int had = processes.size();
        processes.clear();
        variables.clear();
        restart();
        return had;
    }

    int told(int process, int what) {
        Told told = processes.get(process);
        if (what < 0 || what > 2) {
            throw new IllegalArgumentException();
        }
        int steps = 0;
        for (Set<Integer> to : told.steps.values()) {
            steps += to.size();
        }
        return what == 0 ? told.acts.size() + 1 : what == 1 ? steps : told.ends.size();
    }

    int product() {
        long product = 1;
        for (Told told : processes) {
            product *= told.acts.size() + 1;
        }
        for (int[] variable : variables) {
            product *= variable[0];
        }
        return product > 30000 ? -2 : (int) product;
    }

    /** The possible steps of a state in their order, as {process, place}. */
    private List<int[]> steps(List<Integer> state) {
        List<int[]> found = new ArrayList<>();
        for (int p = 0; p < processes.size(); p++) {
            for (int to : processes.get(p).steps.getOrDefault(state.get(p), new TreeSet<>())) {
                if (gone(state, p, to) != null) {
                    found.add(new int[] {p, to});
                }
            }
        }
        return found;
    }

    /** The state behind a step, null when its act can't be done. */
    private List<Integer> gone(List<Integer> state, int process, int place) {
        String act = processes.get(process).acts.get(place - 1);
        List<Integer> next = new ArrayList<>(state);
        next.set(process, place);
        if (act.equals(".")) {
            return next;
        }
        int variable = act.charAt(0) - 'a';
        int at = processes.size() + variable;
        int value = state.get(at);
        int figure = act.length() > 2 ? act.charAt(2) - '0' : 0;
        boolean can = true;
        switch (act.charAt(1)) {
            case '+' -> {
                can = value < variables.get(variable)[0] - 1;
                next.set(at, value + 1);
            }
            case '-' -> {
                can = value != 0;
                next.set(at, value - 1);
            }
            case '=' -> next.set(at, figure);
            case '?' -> can = value == figure;
            default -> can = value != figure;
        }
        return can ? next : null;
    }

    private List<Integer> firstState() {
        List<Integer> first = new ArrayList<>();
        for (int p = 0; p < processes.size(); p++) {
            first.add(0);
        }
        for (int[] variable : variables) {
            first.add(variable[1]);
        }
        return first;
    }

    /** The stuck states that can be come to from a state, in their order. */
    private List<List<Integer>> standing(List<Integer> from) {
        Set<List<Integer>> seen = new HashSet<>(List.of(from));
        ArrayDeque<List<Integer>> waiting = new ArrayDeque<>(List.of(from));
        List<List<Integer>> found = new ArrayList<>();
        while (!waiting.isEmpty()) {
            List<Integer> state = waiting.remove();
            List<int[]> steps = steps(state);
            if (steps.isEmpty()) {
                found.add(state);
            }
            for (int[] step : steps) {
                List<Integer> next = gone(state, step[0], step[1]);
                if (seen.add(next)) {
                    waiting.add(next);
                }
            }
        }
        found.sort(Comparator.comparing(s -> s.stream().mapToInt(i -> i).toArray(), Arrays::compare));
        return found;
    }

    int stuck() {
        return product() == -2 ? -2 : standing(firstState()).size();
    }

    int ended() {
        if (product() == -2) {
            return -2;
        }
        int count = 0;
        for (List<Integer> state : standing(firstState())) {
            boolean all = true;
            for (int p = 0; p < processes.size(); p++) {
                all = all && processes.get(p).ends.contains(state.get(p));
            }
            count += all ? 1 : 0;
        }
        return count;
    }

    int place(int k, int process) {
        refuseMany();
        List<Integer> state = standing(firstState()).get(k);
        processes.get(process);
        return state.get(process);
    }

    int value(int k, int variable) {
        refuseMany();
        List<Integer> state = standing(firstState()).get(k);
        variables.get(variable);
        return state.get(processes.size() + variable);
    }

    private void refuseMany() {
        if (product() == -2) {
            throw new IllegalStateException();
        }
    }

    int moves() {
        return steps(now).size();
    }

    int move(int k) {
        int[] step = steps(now).get(k);
        now = gone(now, step[0], step[1]);
        gone++;
        return 16 * step[0] + step[1];
    }

    int restart() {
        int had = gone;
        now = firstState();
        gone = 0;
        return had;
    }

    int now(int process) {
        processes.get(process);
        return now.get(process);
    }

    int has(int variable) {
        variables.get(variable);
        return now.get(processes.size() + variable);
    }

    boolean falls() {
        refuseMany();
        return !standing(now).isEmpty();
    }
}
