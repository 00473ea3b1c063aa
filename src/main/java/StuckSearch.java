import java.util.Arrays;

/**
 * Finds all ways in which processes that share variables can come to a stand.
 * The document's promises say what each call answers; README.md shows the use.
 */
public final class StuckSearch {
    public static final int NONE = -1, MANY = -2;

    private static final int TAPE_LIMIT = 100;
    private static final int FEED_LIMIT = 8;
    private static final int VARIABLE_LIMIT = 5;
    private static final int SIZE_LIMIT = 5;
    private static final int PROCESS_LIMIT = 6;
    private static final int ACT_LIMIT = 12;
    private static final int OPEN_LIMIT = 12;
    private static final int PRODUCT_LIMIT = 30000;

    private static final int WRONG_BYTE = 1;
    private static final int TOO_MANY_ACTS = 2;
    private static final int TOO_MANY_OPEN = 3;

    private final Tape tape = new Tape();
    private final World world = new World();
    private final TextReader reader = new TextReader(tape, world);
    private final Search search = new Search(world);
    private final State current = new State();
    private int stepsGone;

    /** No variables, no processes, an empty tape. */
    public StuckSearch() {
    }

    /** Puts the n lowest bytes, the lowest first, behind the tape. */
    public int feed(int n, long bytes) throws IllegalArgumentException {
        if (n < 1 || n > FEED_LIMIT) {
            throw new IllegalArgumentException("n is not 1 to 8");
        }
        return tape.append(n, bytes) ? tape.length : NONE;
    }

    /** Empties the tape; answers how many bytes it had. */
    public int wipe() {
        int had = tape.length;
        tape.length = 0;
        return had;
    }

    /** Adds a variable; answers its number, or NONE when there are 5. */
    public int variable(int size, int first) throws IllegalArgumentException {
        if (size < 2 || size > SIZE_LIMIT || first < 0 || first >= size) {
            throw new IllegalArgumentException("size is not 2 to 5, or first not below it");
        }
        if (world.variableCount >= VARIABLE_LIMIT) {
            return NONE;
        }
        world.addVariable(size, first);
        beginAnew();
        return world.variableCount - 1;
    }

    /** Adds the process that the tape tells; answers its number, or NONE. */
    public int process() {
        if (world.processCount >= PROCESS_LIMIT) {
            return NONE;
        }
        // A faulty text spoils only the spare course, which the next text resets.
        if (!reader.read(world.courses[world.processCount])) {
            return NONE;
        }
        world.processCount++;
        beginAnew();
        return world.processCount - 1;
    }

    /** The fault of the last text that was read, 0 when there is none. */
    public int fault() {
        return reader.faultKind;
    }

    /** Where on the tape that fault was, NONE when there is none. */
    public int faultAt() {
        return reader.faultPlace;
    }

    /** Removes all variables and processes; answers how many processes there were. */
    public int clear() {
        int had = world.processCount;
        world.removeAll();
        beginAnew();
        return had;
    }

    /** The number of a process's places (0), steps (1) or ends (2). */
    public int told(int process, int what) throws IndexOutOfBoundsException, IllegalArgumentException {
        checkIndex(process, world.processCount);
        Course course = world.courses[process];
        switch (what) {
            case 0:
                return course.placeCount;
            case 1:
                return course.countSteps();
            case 2:
                return Integer.bitCount(course.ends);
            default:
                throw new IllegalArgumentException("what is not 0 to 2");
        }
    }

    /** The product of all numbers of places and all sizes, MANY when above 30000. */
    public int product() {
        return world.isSearchable() ? (int) world.countStates() : MANY;
    }

    /** How many stuck states can be come to, MANY when the product is above 30000. */
    public int stuck() {
        if (!world.isSearchable()) {
            return MANY;
        }
        search.findStanding();
        return search.standingCount;
    }

    /** In how many of the stuck states all processes are at ends, MANY as with stuck(). */
    public int ended() {
        if (!world.isSearchable()) {
            return MANY;
        }
        search.findStanding();
        return search.endedCount;
    }

    /** The place of a process in the k-th stuck state. */
    public int place(int k, int process) throws IllegalStateException, IndexOutOfBoundsException {
        checkSearchable();
        search.findStanding();
        checkIndex(k, search.standingCount);
        checkIndex(process, world.processCount);
        return search.standingState(k).places[process];
    }

    /** The value of a variable in the k-th stuck state. */
    public int value(int k, int variable) throws IllegalStateException, IndexOutOfBoundsException {
        checkSearchable();
        search.findStanding();
        checkIndex(k, search.standingCount);
        checkIndex(variable, world.variableCount);
        return search.standingState(k).values[variable];
    }

    /** How many steps are possible now. */
    public int moves() {
        int count = 0;
        for (int p = 0; p < world.processCount; p++) {
            count += Integer.bitCount(world.openPlaces(current, p));
        }
        return count;
    }

    /** Goes the k-th possible step; answers 16 times its process, and its place. */
    public int move(int k) throws IndexOutOfBoundsException {
        int left = k;
        for (int p = 0; p < world.processCount && left >= 0; p++) {
            int open = world.openPlaces(current, p);
            int count = Integer.bitCount(open);
            if (left < count) {
                int target = nthBit(open, left);
                world.go(current, p, target);
                stepsGone++;
                return 16 * p + target;
            }
            left -= count;
        }
        throw new IndexOutOfBoundsException("there is no such step");
    }

    /** Goes back to the first state; answers how many steps were gone since it. */
    public int restart() {
        int gone = stepsGone;
        returnToFirst();
        return gone;
    }

    /** The place of a process now. */
    public int now(int process) throws IndexOutOfBoundsException {
        checkIndex(process, world.processCount);
        return current.places[process];
    }

    /** The value of a variable now. */
    public int has(int variable) throws IndexOutOfBoundsException {
        checkIndex(variable, world.variableCount);
        return current.values[variable];
    }

    /** Whether the state now is stuck, or a stuck one can be come to from it. */
    public boolean falls() throws IllegalStateException {
        checkSearchable();
        search.findFalling();
        return search.falling.contains(world.numberOf(current));
    }

    private void beginAnew() {
        search.forget();
        returnToFirst();
    }

    private void returnToFirst() {
        world.putFirst(current);
        stepsGone = 0;
    }

    private void checkSearchable() {
        if (!world.isSearchable()) {
            throw new IllegalStateException("the product is above 30000");
        }
    }

    private static void checkIndex(int index, int count) {
        if (index < 0 || index >= count) {
            throw new IndexOutOfBoundsException("there is no such number");
        }
    }

    /** Where the n-th bit that is set stands; there must be more than n of them. */
    private static int nthBit(long bits, int n) {
        long rest = bits;
        for (int i = 0; i < n; i++) {
            rest &= rest - 1;
        }
        return Long.bitCount((rest & -rest) - 1);
    }

    /** The bytes that have been fed and not wiped. */
    private static final class Tape {
        private final byte[] bytes = new byte[TAPE_LIMIT];
        private int length;

        private boolean append(int n, long packed) {
            if (n > TAPE_LIMIT - length) {
                return false;
            }
            for (int i = 0; i < n; i++) {
                bytes[length + i] = (byte) (packed >>> 8 * i);
            }
            length += n;
            return true;
        }

        /** NONE behind the end: it is no byte, so a reader refuses it as a wrong one. */
        private int byteAt(int place) {
            return place >= 0 && place < length ? bytes[place] & 255 : NONE;
        }
    }

    /** What a process is told to be: its acts by their places, its steps and ends. */
    private static final class Course {
        private int placeCount = 1;
        private int ends;
        /** For each place the places that steps go to from it, as bits. */
        private final int[] steps = new int[ACT_LIMIT + 1];
        private final int[] kinds = new int[ACT_LIMIT + 1];
        private final int[] variables = new int[ACT_LIMIT + 1];
        private final int[] figures = new int[ACT_LIMIT + 1];

        private void reset() {
            placeCount = 1;
            ends = 0;
            Arrays.fill(steps, 0);
        }

        private boolean isFull() {
            return placeCount > ACT_LIMIT;
        }

        /** The course must not be full; answers the act's place. */
        private int addAct(int kind, int variable, int figure) {
            int place = placeCount;
            kinds[place] = kind;
            variables[place] = variable;
            figures[place] = figure;
            placeCount++;
            return place;
        }

        private void addSteps(int from, int to) {
            for (int place = 0; place < placeCount; place++) {
                if ((from >> place & 1) != 0) {
                    steps[place] |= to;
                }
            }
        }

        private void finish(Part whole) {
            steps[0] = whole.first;
            ends = whole.last | (whole.canBeNothing ? 1 : 0);
        }

        private int countSteps() {
            int count = 0;
            for (int place = 0; place < placeCount; place++) {
                count += Integer.bitCount(steps[place]);
            }
            return count;
        }

        private boolean isEnd(int place) {
            return (ends >> place & 1) != 0;
        }

        /** The value behind a place's act; NONE when the act can't be done. */
        private int outcome(int place, int before, int size) {
            switch (kinds[place]) {
                case '+':
                    return before < size - 1 ? before + 1 : NONE;
                case '-':
                    return before > 0 ? before - 1 : NONE;
                case '=':
                    return figures[place];
                case '?':
                    return before == figures[place] ? before : NONE;
                case '!':
                    return before != figures[place] ? before : NONE;
                default:
                    return before;
            }
        }
    }

    /** A text within: whether it can be nothing, its first and its last places as bits. */
    private static final class Part {
        private boolean canBeNothing;
        private int first;
        private int last;

        private void set(boolean nothing, int places) {
            canBeNothing = nothing;
            first = places;
            last = places;
        }

        private void addChoice(Part other) {
            canBeNothing |= other.canBeNothing;
            first |= other.first;
            last |= other.last;
        }

        private void addBehind(Part next) {
            first |= canBeNothing ? next.first : 0;
            last = next.last | (next.canBeNothing ? last : 0);
            canBeNothing &= next.canBeNothing;
        }
    }

    /** Reads the tape into a course, from its beginning up to the first fault. */
    private static final class TextReader {
        private final Tape tape;
        private final World world;
        /** For each open text its ended choices, and the things of the choice that goes on. */
        private final Part[] choices = new Part[OPEN_LIMIT + 1];
        private final Part[] rows = new Part[OPEN_LIMIT + 1];
        private final Part act = new Part();
        private int depth;
        private int at;
        private int faultKind;
        private int faultPlace = NONE;

        private TextReader(Tape tape, World world) {
            this.tape = tape;
            this.world = world;
            for (int i = 0; i <= OPEN_LIMIT; i++) {
                choices[i] = new Part();
                rows[i] = new Part();
            }
        }

        /** Answers whether the text has no fault; else the course is of no use. */
        private boolean read(Course course) {
            faultKind = 0;
            faultPlace = NONE;
            at = 0;
            depth = 0;
            course.reset();
            beginText();
            // Each round reads a byte at least, or meets a fault.
            for (int round = 0; round < TAPE_LIMIT && at < tape.length && faultKind == 0; round++) {
                readNext(course);
            }
            if (faultKind == 0 && depth > 0) {
                meetFault(WRONG_BYTE);
            }
            if (faultKind != 0) {
                return false;
            }
            endChoice();
            course.finish(choices[depth]);
            return true;
        }

        private void readNext(Course course) {
            switch (tape.byteAt(at)) {
                case '|':
                    at++;
                    endChoice();
                    break;
                case '(':
                    openText();
                    break;
                case ')':
                    closeText(course);
                    break;
                default:
                    readAct(course);
                    break;
            }
        }

        private void openText() {
            if (depth >= OPEN_LIMIT) {
                meetFault(TOO_MANY_OPEN);
                return;
            }
            at++;
            depth++;
            beginText();
        }

        private void closeText(Course course) {
            if (depth == 0) {
                meetFault(WRONG_BYTE);
                return;
            }
            at++;
            endChoice();
            Part inner = choices[depth];
            depth--;
            addThing(course, inner);
        }

        private void readAct(Course course) {
            int begin = tape.byteAt(at);
            int variable = begin - 'a';
            boolean ofVariable = variable >= 0 && variable < world.variableCount;
            if (begin != '.' && !ofVariable) {
                meetFault(WRONG_BYTE);
                return;
            }
            if (course.isFull()) {
                meetFault(TOO_MANY_ACTS);
                return;
            }
            at++;
            // A point changes nothing, so any variable will do for it.
            int owner = ofVariable ? variable : 0;
            int kind = ofVariable ? readKind() : '.';
            int figure = takesFigure(kind) ? readFigure(world.sizes[owner]) : 0;
            if (faultKind == 0) {
                act.set(false, 1 << course.addAct(kind, owner, figure));
                addThing(course, act);
            }
        }

        /** NONE, and a fault, when there is no kind of act. */
        private int readKind() {
            int kind = tape.byteAt(at);
            if (kind != '+' && kind != '-' && !takesFigure(kind)) {
                meetFault(WRONG_BYTE);
                return NONE;
            }
            at++;
            return kind;
        }

        private static boolean takesFigure(int kind) {
            return kind == '=' || kind == '?' || kind == '!';
        }

        /** NONE, and a fault, when there is no figure below the size. */
        private int readFigure(int size) {
            int figure = tape.byteAt(at) - '0';
            if (figure < 0 || figure >= size) {
                meetFault(WRONG_BYTE);
                return NONE;
            }
            at++;
            return figure;
        }

        /** The stars come first: whether a thing can be nothing shows only behind them. */
        private void addThing(Course course, Part thing) {
            while (at < tape.length && tape.byteAt(at) == '*') {
                at++;
                course.addSteps(thing.last, thing.first);
                thing.canBeNothing = true;
            }
            course.addSteps(rows[depth].last, thing.first);
            rows[depth].addBehind(thing);
        }

        private void beginText() {
            choices[depth].set(false, 0);
            rows[depth].set(true, 0);
        }

        private void endChoice() {
            choices[depth].addChoice(rows[depth]);
            rows[depth].set(true, 0);
        }

        private void meetFault(int kind) {
            faultKind = kind;
            faultPlace = at;
        }
    }

    /** Where each process is, and what each variable has. */
    private static final class State {
        private final int[] places = new int[PROCESS_LIMIT];
        private final int[] values = new int[VARIABLE_LIMIT];
    }

    /**
     * The variables and processes. A variable that has not come counts as one of size 1:
     * it stays 0 and changes neither the product nor the order of states.
     */
    private static final class World {
        private final int[] sizes = new int[VARIABLE_LIMIT];
        private final int[] firsts = new int[VARIABLE_LIMIT];
        private int variableCount;
        private final Course[] courses = new Course[PROCESS_LIMIT];
        private int processCount;

        private World() {
            Arrays.fill(sizes, 1);
            for (int p = 0; p < PROCESS_LIMIT; p++) {
                courses[p] = new Course();
            }
        }

        private void addVariable(int size, int first) {
            sizes[variableCount] = size;
            firsts[variableCount] = first;
            variableCount++;
        }

        private void removeAll() {
            Arrays.fill(sizes, 1);
            Arrays.fill(firsts, 0);
            variableCount = 0;
            processCount = 0;
        }

        /** A long, since 13 places of 6 processes and 5 variables of size 5 pass an int. */
        private long countStates() {
            long count = 1;
            for (int p = 0; p < processCount; p++) {
                count *= courses[p].placeCount;
            }
            for (int v = 0; v < VARIABLE_LIMIT; v++) {
                count *= sizes[v];
            }
            return count;
        }

        private boolean isSearchable() {
            return countStates() <= PRODUCT_LIMIT;
        }

        private void putFirst(State state) {
            Arrays.fill(state.places, 0);
            for (int v = 0; v < VARIABLE_LIMIT; v++) {
                state.values[v] = firsts[v];
            }
        }

        /** The places to which a process can step in a state, as bits. */
        private int openPlaces(State state, int process) {
            Course course = courses[process];
            int targets = course.steps[state.places[process]];
            int open = 0;
            for (int place = 1; place < course.placeCount; place++) {
                if ((targets >> place & 1) != 0 && outcome(state, course, place) != NONE) {
                    open |= 1 << place;
                }
            }
            return open;
        }

        private int outcome(State state, Course course, int place) {
            int variable = course.variables[place];
            return course.outcome(place, state.values[variable], sizes[variable]);
        }

        /** The step must be possible. */
        private void go(State state, int process, int place) {
            Course course = courses[process];
            state.values[course.variables[place]] = outcome(state, course, place);
            state.places[process] = place;
        }

        private boolean allAtEnds(State state) {
            for (int p = 0; p < processCount; p++) {
                if (!courses[p].isEnd(state.places[p])) {
                    return false;
                }
            }
            return true;
        }

        /** States are numbered in the document's order of stuck states. */
        private int numberOf(State state) {
            int number = 0;
            for (int p = 0; p < processCount; p++) {
                number = number * courses[p].placeCount + state.places[p];
            }
            for (int v = 0; v < VARIABLE_LIMIT; v++) {
                number = number * sizes[v] + state.values[v];
            }
            return number;
        }

        private void putNumbered(int number, State state) {
            int rest = number;
            for (int v = VARIABLE_LIMIT - 1; v >= 0; v--) {
                int size = Math.max(1, sizes[v]);
                state.values[v] = rest % size;
                rest /= size;
            }
            for (int p = processCount - 1; p >= 0; p--) {
                int count = Math.max(1, courses[p].placeCount);
                state.places[p] = rest % count;
                rest /= count;
            }
        }
    }

    /** A set of state numbers, held as bits because a room has place for few rows of 30000. */
    private static final class StateSet {
        private static final int WORDS = PRODUCT_LIMIT / 64 + 1;
        private final long[] words = new long[WORDS];
        /** No word before this one has a bit. */
        private int lowest = WORDS;

        private void empty() {
            Arrays.fill(words, 0L);
            lowest = WORDS;
        }

        private void copyFrom(StateSet other) {
            System.arraycopy(other.words, 0, words, 0, WORDS);
            lowest = 0;
        }

        private boolean contains(int number) {
            return number >= 0 && number < PRODUCT_LIMIT
                && (words[number / 64] >>> number % 64 & 1) != 0;
        }

        private void add(int number) {
            if (number < 0 || number >= PRODUCT_LIMIT) {
                return;
            }
            words[number / 64] |= 1L << number % 64;
            if (number / 64 < lowest) {
                lowest = number / 64;
            }
        }

        /** Takes the lowest number out and answers it; NONE when there is none. */
        private int takeLowest() {
            while (lowest < WORDS && words[lowest] == 0) {
                lowest++;
            }
            if (lowest >= WORDS) {
                return NONE;
            }
            int bit = nthBit(words[lowest], 0);
            words[lowest] &= words[lowest] - 1;
            return lowest * 64 + bit;
        }

        /** The k-th number in rising order; NONE when there is none. */
        private int nth(int k) {
            int left = k;
            for (int w = 0; w < WORDS; w++) {
                int count = Long.bitCount(words[w]);
                if (left < count) {
                    return w * 64 + nthBit(words[w], left);
                }
                left -= count;
            }
            return NONE;
        }
    }

    /**
     * The states that can be come to, those of them that are stuck, and those from which a
     * stuck one can be come to. All are kept until the world changes, so that asking is cheap.
     */
    private static final class Search {
        private final World world;
        private final StateSet reached = new StateSet();
        private final StateSet standing = new StateSet();
        private final StateSet falling = new StateSet();
        private final StateSet waiting = new StateSet();
        private final State seen = new State();
        /** By how much a state's number grows with a place, or a value, that is one greater. */
        private final int[] placeWeights = new int[PROCESS_LIMIT];
        private final int[] valueWeights = new int[VARIABLE_LIMIT];
        private int standingCount;
        private int endedCount;
        private boolean standingKnown;
        private boolean fallingKnown;

        private Search(World world) {
            this.world = world;
        }

        private void forget() {
            standingKnown = false;
            fallingKnown = false;
        }

        /** The world must be searchable. */
        private void findStanding() {
            if (standingKnown) {
                return;
            }
            weigh();
            reached.empty();
            standing.empty();
            waiting.empty();
            standingCount = 0;
            endedCount = 0;
            world.putFirst(seen);
            reach(world.numberOf(seen));
            // No state waits twice, so there are no more rounds than states.
            for (int round = 0; round < PRODUCT_LIMIT; round++) {
                int number = waiting.takeLowest();
                if (number == NONE) {
                    break;
                }
                lookAhead(number);
            }
            standingKnown = true;
        }

        /** The world must be searchable. */
        private void findFalling() {
            findStanding();
            if (fallingKnown) {
                return;
            }
            falling.copyFrom(standing);
            waiting.copyFrom(standing);
            for (int round = 0; round < PRODUCT_LIMIT; round++) {
                int number = waiting.takeLowest();
                if (number == NONE) {
                    break;
                }
                lookBack(number);
            }
            fallingKnown = true;
        }

        /** There must be more than k stuck states; the answer holds until the next call. */
        private State standingState(int k) {
            world.putNumbered(standing.nth(k), seen);
            return seen;
        }

        private void weigh() {
            int weight = 1;
            for (int v = VARIABLE_LIMIT - 1; v >= 0; v--) {
                valueWeights[v] = weight;
                weight *= world.sizes[v];
            }
            for (int p = world.processCount - 1; p >= 0; p--) {
                placeWeights[p] = weight;
                weight *= world.courses[p].placeCount;
            }
        }

        private void reach(int number) {
            if (!reached.contains(number)) {
                reached.add(number);
                waiting.add(number);
            }
        }

        private void lookAhead(int number) {
            world.putNumbered(number, seen);
            boolean stands = true;
            for (int p = 0; p < world.processCount; p++) {
                int open = world.openPlaces(seen, p);
                if (open != 0) {
                    stands = false;
                    reachAll(number, p, open);
                }
            }
            if (stands) {
                standing.add(number);
                standingCount++;
                endedCount += world.allAtEnds(seen) ? 1 : 0;
            }
        }

        private void reachAll(int number, int process, int open) {
            Course course = world.courses[process];
            for (int place = 1; place < course.placeCount; place++) {
                if ((open >> place & 1) != 0) {
                    int variable = course.variables[place];
                    int change = world.outcome(seen, course, place) - seen.values[variable];
                    reach(number + change * valueWeights[variable]
                        + (place - seen.places[process]) * placeWeights[process]);
                }
            }
        }

        private void lookBack(int number) {
            world.putNumbered(number, seen);
            for (int p = 0; p < world.processCount; p++) {
                int place = seen.places[p];
                // No step goes to place 0.
                if (place != 0) {
                    undoAct(number, p, place);
                }
            }
        }

        /** Tries all values that the variable can have had before the act of the place. */
        private void undoAct(int number, int process, int place) {
            Course course = world.courses[process];
            int variable = course.variables[place];
            int value = seen.values[variable];
            int size = world.sizes[variable];
            for (int before = 0; before < size; before++) {
                if (course.outcome(place, before, size) == value) {
                    undoStep(number + (before - value) * valueWeights[variable], process, place);
                }
            }
        }

        private void undoStep(int number, int process, int place) {
            Course course = world.courses[process];
            for (int from = 0; from < course.placeCount; from++) {
                if ((course.steps[from] >> place & 1) != 0) {
                    fall(number + (from - place) * placeWeights[process]);
                }
            }
        }

        private void fall(int number) {
            if (reached.contains(number) && !falling.contains(number)) {
                falling.add(number);
                waiting.add(number);
            }
        }
    }
}
