/** What the tests share: counting wrong answers, telling texts, and naming exceptions. */
final class Kit {
    static final String INDEX = "IndexOutOfBoundsException";
    static final String ARGUMENT = "IllegalArgumentException";
    static final String STATE = "IllegalStateException";

    private static int wrong = 0;
    private static String sentence = "";

    private Kit() {
    }

    interface Call {
        Object run();
    }

    /** The document's words that the calls behind this one test. */
    static void says(String words) {
        sentence = words;
    }

    /** The answer as a text, or the simple name of what was thrown. */
    static String answer(Call call) {
        try {
            return String.valueOf(call.run());
        } catch (RuntimeException e) {
            return e.getClass().getSimpleName();
        }
    }

    static void due(String what, Object want, Call call) {
        String got = answer(call);
        if (!got.equals(String.valueOf(want))) {
            wrong++;
            System.out.println("\"" + sentence + "\": " + what + " answered " + got + ", due is " + want);
        }
    }

    static void finish() {
        if (wrong != 0) {
            System.out.println(wrong + " answers are not as due");
            System.exit(1);
        }
    }

    /** Puts a text on the tape instead of what is there. */
    static void write(StuckSearch x, String text) {
        x.wipe();
        for (int from = 0; from < text.length(); from += 8) {
            int n = Math.min(8, text.length() - from);
            x.feed(n, packed(text.substring(from, from + n)));
        }
    }

    static long packed(String text) {
        long bytes = 0;
        for (int i = 0; i < text.length(); i++) {
            bytes |= (text.charAt(i) & 255L) << 8 * i;
        }
        return bytes;
    }

    static int process(StuckSearch x, String text) {
        write(x, text);
        return x.process();
    }

    /** A new object with variables written as size and first value, such as "52 20". */
    static StuckSearch world(String variables, String... texts) {
        StuckSearch x = new StuckSearch();
        for (String variable : variables.split(" ")) {
            if (!variable.isEmpty()) {
                x.variable(variable.charAt(0) - '0', variable.charAt(1) - '0');
            }
        }
        for (String text : texts) {
            if (process(x, text) == StuckSearch.NONE) {
                throw new AssertionError("the test's own text has a fault: " + text);
            }
        }
        return x;
    }

    /** All stuck states, such as "1,1/0,0 2,0/1,1", of a world with so many of each. */
    static String standing(StuckSearch x, int processes, int variables) {
        StringBuilder all = new StringBuilder();
        int count = x.stuck();
        for (int k = 0; k < count; k++) {
            all.append(k == 0 ? "" : " ");
            for (int p = 0; p < processes; p++) {
                all.append(p == 0 ? "" : ",").append(x.place(k, p));
            }
            all.append('/');
            for (int v = 0; v < variables; v++) {
                all.append(v == 0 ? "" : ",").append(x.value(k, v));
            }
        }
        return all.toString();
    }

    /** The state now, such as "1,0/2,4", of a world with so many of each. */
    static String now(StuckSearch x, int processes, int variables) {
        StringBuilder all = new StringBuilder();
        for (int p = 0; p < processes; p++) {
            all.append(p == 0 ? "" : ",").append(x.now(p));
        }
        all.append('/');
        for (int v = 0; v < variables; v++) {
            all.append(v == 0 ? "" : ",").append(x.has(v));
        }
        return all.toString();
    }

    /** Places, steps and ends of a process, such as "5 5 2". */
    static String shape(StuckSearch x, int process) {
        return x.told(process, 0) + " " + x.told(process, 1) + " " + x.told(process, 2);
    }

    /** The fault and its place, such as "1 at 4"; "0 at -1" when there is none. */
    static String fault(StuckSearch x) {
        return x.fault() + " at " + x.faultAt();
    }

    /** Numbers that are none of so many: just outside, and as far outside as can be. */
    static int[] outside(int count) {
        return new int[] {-1, count, count + 1, Integer.MIN_VALUE, Integer.MAX_VALUE};
    }
}
