/** Promises 5 (which texts have a fault), 6 (fault) and 7 (faultAt). */
public final class FaultTest {
    private static final String TWELVE = "............";
    private static final String OPEN = "((((((((((((";
    private static final String SHUT = "))))))))))))";

    public static void main(String[] args) {
        eachByteInEachPlace();
        eachLetterWithEachNumberOfVariables();
        eachFigureWithEachSize();
        noBlanks();
        atTheTextsEnd();
        wrongBytes();
        thirteenthAct();
        whatStandsBehindTheThirteenthAct();
        thirteenthActThatCanNotBegin();
        thirteenthOpen();
        firstFromTheBeginning();
        noneAtFirst();
        ofTheLastText();
        sixProcessesAreNotLookedAt();
        placeOfNoFault();
        Kit.finish();
    }

    /** With a of size 3 and b of size 5; bytes that end a text, that ask for more, and all others. */
    private static void eachByteInEachPlace() {
        Kit.says("1 a byte that can't come there (at it, or at the text's end; so a letter or figure that is none here)");
        String[][] all = {
            {"", ".|", "(ab"}, {".", ".|*", "(ab"}, {".*", ".|*", "(ab"}, {".|", ".|", "(ab"}, {"|", ".|", "(ab"},
            {"(", ")", ".|(ab"}, {"(.", ")", ".|*(ab"}, {"(|", ")", ".|(ab"}, {"(.*", ")", ".|*(ab"},
            {"((.)", ")", ".|*(ab"}, {"()", ".|*", "(ab"}, {"(.)", ".|*", "(ab"}, {"(.)*", ".|*", "(ab"},
            {"a", "+-", "=?!"}, {"b", "+-", "=?!"}, {".a", "+-", "=?!"}, {"(a", "", "+-=?!"},
            {"a+", ".|*", "(ab"}, {"a-", ".|*", "(ab"}, {"b+*", ".|*", "(ab"}, {"(b-", ")", ".|*(ab"},
            {"a=", "012", ""}, {"a?", "012", ""}, {"a!", "012", ""}, {"(a=", "", "012"},
            {"b=", "01234", ""}, {"b?", "01234", ""}, {"b!", "01234", ""},
            {"a=2", ".|*", "(ab"}, {"b?4", ".|*", "(ab"}, {"b!0", ".|*", "(ab"}, {"a=0*", ".|*", "(ab"},
            {TWELVE, "|*", "("}, {OPEN, "", ".|)ab"}, {OPEN + SHUT, ".|*", "(ab"}, {TWELVE.substring(1), ".|*", "(ab"},
        };
        for (String[] one : all) {
            for (int value = 0; value < 256; value++) {
                char next = (char) value;
                int at = one[0].length();
                if (one[0].equals(TWELVE) && ".ab".indexOf(next) >= 0) {
                    fault(one[0] + next, "2 at " + at);
                } else if (one[0].equals(OPEN) && next == '(') {
                    fault(one[0] + next, "3 at " + at);
                } else if (one[1].indexOf(next) >= 0) {
                    fault(one[0] + next, "0 at -1");
                } else {
                    fault(one[0] + next, "1 at " + (one[2].indexOf(next) >= 0 ? at + 1 : at));
                }
            }
        }
    }

    /** With a of size 3 and b of size 5. */
    private static void fault(String text, String want) {
        StuckSearch x = Kit.world("30 50");
        boolean right = want.charAt(0) == '0';
        Kit.due("process " + text, right ? 0 : StuckSearch.NONE, () -> Kit.process(x, text));
        Kit.due("fault of " + text, want, () -> Kit.fault(x));
        Kit.due("processes behind " + text, right ? 1 : 0, x::clear);
    }

    private static void eachLetterWithEachNumberOfVariables() {
        Kit.says("so a letter or figure that is none here");
        for (int count = 0; count <= 5; count++) {
            for (char letter = '`'; letter <= 'g'; letter++) {
                StuckSearch x = Kit.world("20 20 20 20 20".substring(0, Math.max(0, 3 * count - 1)));
                char one = letter;
                boolean right = letter >= 'a' && letter < 'a' + count;
                Kit.due(letter + "+ with " + count, right ? 0 : StuckSearch.NONE, () -> Kit.process(x, one + "+"));
                Kit.due(letter + "+ with " + count, right ? "0 at -1" : "1 at 0", () -> Kit.fault(x));
                Kit.process(x, ".(" + one);
                Kit.due(letter + " with " + count, right ? "1 at 3" : "1 at 2", () -> Kit.fault(x));
            }
        }
        StuckSearch y = Kit.world("20 20");
        y.clear();
        Kit.process(y, "a+");
        Kit.due("a behind clear", "1 at 0", () -> Kit.fault(y));
    }

    private static void eachFigureWithEachSize() {
        Kit.says("a figure below the variable's size");
        for (int size = 2; size <= 5; size++) {
            for (char sign : "=?!".toCharArray()) {
                for (char figure = '/'; figure <= ':'; figure++) {
                    // b has the size; a and c must not be looked at.
                    StuckSearch x = Kit.world("50 " + size + "0 50");
                    String text = "b" + sign + figure;
                    boolean right = figure >= '0' && figure < '0' + size;
                    Kit.due(text + " of " + size, right ? 0 : StuckSearch.NONE, () -> Kit.process(x, text));
                    Kit.due(text + " of " + size, right ? "0 at -1" : "1 at 2", () -> Kit.fault(x));
                }
            }
        }
        fault("a=22", "1 at 3");
        fault("a=10", "1 at 3");
        fault("a=02", "1 at 3");
    }

    private static void noBlanks() {
        Kit.says("no blanks");
        fault(" ", "1 at 0");
        fault(" .", "1 at 0");
        fault(". ", "1 at 1");
        fault(". .", "1 at 1");
        fault("a +", "1 at 1");
        fault("a= 2", "1 at 2");
        fault("( )", "1 at 1");
        fault(". *", "1 at 1");
        fault(".\t.", "1 at 1");
        fault(".\n", "1 at 1");
        fault(".\0", "1 at 1");
    }

    private static void atTheTextsEnd() {
        Kit.says("at it, or at the text's end");
        fault("(", "1 at 1");
        fault("(.", "1 at 2");
        fault("((.)", "1 at 4");
        fault("(.|", "1 at 3");
        fault("a", "1 at 1");
        fault("a=", "1 at 2");
        fault("(a", "1 at 2");
        fault(OPEN, "1 at 12");
        fault(OPEN + SHUT.substring(1), "1 at 23");
        fault("(".repeat(12) + ")".repeat(11) + "|".repeat(77), "1 at 100");
        fault("|".repeat(99) + "(", "1 at 100");
        fault("|".repeat(99) + "a", "1 at 100");
        fault("|".repeat(98) + "a!", "1 at 100");
        fault("|".repeat(98) + "a.", "1 at 99");
        fault("|".repeat(99) + ")", "1 at 99");
        // What was on the tape before must not be read behind its end.
        StuckSearch x = Kit.world("50");
        Kit.process(x, "a=4(.)");
        Kit.process(x, "a=");
        Kit.due("the old figure", "1 at 2", () -> Kit.fault(x));
        Kit.process(x, "a");
        Kit.due("the old sign", "1 at 1", () -> Kit.fault(x));
        Kit.process(x, "...(.");
        Kit.due("the old )", "1 at 5", () -> Kit.fault(x));
    }

    private static void wrongBytes() {
        Kit.says("1 a byte that can't come there");
        fault("*", "1 at 0");
        fault("|*", "1 at 1");
        fault("(*)", "1 at 1");
        fault("(|*)", "1 at 2");
        fault(")", "1 at 0");
        fault("())", "1 at 2");
        fault("(.))(", "1 at 3");
        fault(")(", "1 at 0");
        fault(OPEN + SHUT + ")", "1 at 24");
        fault("a++", "1 at 2");
        fault("a+1", "1 at 2");
        fault("a*", "1 at 1");
        fault("a=*", "1 at 2");
        fault("aa+", "1 at 1");
        fault("a(+)", "1 at 1");
        fault("A+", "1 at 0");
        fault("+a", "1 at 0");
        fault("1", "1 at 0");
        // Bytes above 127, and those that are a good byte but for the highest bit.
        fault("\u00ff", "1 at 0");
        fault("\u0080", "1 at 0");
        fault("\u00ae", "1 at 0");
        fault("a\u00ab", "1 at 1");
        fault("a=\u00b1", "1 at 2");
    }

    private static void thirteenthAct() {
        Kit.says("2 the 13th act (at its first byte, if an act can begin with it");
        fault(TWELVE, "0 at -1");
        fault(TWELVE + ".", "2 at 12");
        fault(TWELVE + "a+", "2 at 12");
        fault(TWELVE + "b=4", "2 at 12");
        fault("a+".repeat(12), "0 at -1");
        fault("a+".repeat(12) + ".", "2 at 24");
        fault("b?4".repeat(12), "0 at -1");
        fault("b?4".repeat(12) + "b?4", "2 at 36");
        fault(".|.|.|.|.|.|.|.|.|.|.|.|.", "2 at 24");
        fault("(.)(.)(.)(.)(.)(.)(.)(.)(.)(.)(.)(.)(.)", "2 at 37");
        fault("(.*|.)(.*|.)(.*|.)(.*|.)(.*|.)(.*|.)", "0 at -1");
        fault(TWELVE + "*", "0 at -1");
        fault(TWELVE + "***|()*|(|)", "0 at -1");
        fault(TWELVE + "*.", "2 at 13");
        fault(TWELVE + "|.", "2 at 13");
        fault(TWELVE + "(.)", "2 at 13");
        fault(TWELVE + "(|()b-)", "2 at 16");
        fault("|".repeat(87) + TWELVE, "0 at -1");
        fault("|".repeat(87) + TWELVE + ".", "2 at 99");
    }

    private static void whatStandsBehindTheThirteenthAct() {
        Kit.says("what stands behind that is not looked at");
        fault(TWELVE + "a", "2 at 12");
        fault(TWELVE + "ax", "2 at 12");
        fault(TWELVE + "a=9", "2 at 12");
        fault(TWELVE + "a=", "2 at 12");
        fault(TWELVE + ".x", "2 at 12");
        fault(TWELVE + ".)", "2 at 12");
        fault(TWELVE + "(.", "2 at 13");
        fault("(" + TWELVE + ".", "2 at 13");
        fault(TWELVE + "...", "2 at 12");
    }

    private static void thirteenthActThatCanNotBegin() {
        Kit.says("if an act can begin with it");
        fault(TWELVE + "c+", "1 at 12");
        fault(TWELVE + "e", "1 at 12");
        fault(TWELVE + "x", "1 at 12");
        fault(TWELVE + "+", "1 at 12");
        fault(TWELVE + "0", "1 at 12");
        fault(TWELVE + ")", "1 at 12");
        fault(TWELVE + "(", "1 at 13");
        // What is wrong within the 12th act is a wrong byte still.
        fault(TWELVE.substring(1) + "a", "1 at 12");
        fault(TWELVE.substring(1) + "a=3", "1 at 13");
        StuckSearch x = new StuckSearch();
        Kit.process(x, TWELVE + "a+");
        Kit.due("a with no variables", "1 at 12", () -> Kit.fault(x));
        StuckSearch y = Kit.world("20 20 20 20 20");
        Kit.process(y, TWELVE + "e+");
        Kit.due("e with five", "2 at 12", () -> Kit.fault(y));
        Kit.process(y, TWELVE + "f+");
        Kit.due("f with five", "1 at 12", () -> Kit.fault(y));
    }

    private static void thirteenthOpen() {
        Kit.says("3 the 13th ( that is open (at it)");
        fault(OPEN + SHUT, "0 at -1");
        fault(OPEN + "." + SHUT, "0 at -1");
        fault(OPEN + "(", "3 at 12");
        fault(OPEN + "()" + SHUT, "3 at 12");
        fault(OPEN + "(x", "3 at 12");
        fault(OPEN + "((", "3 at 12");
        fault("." + OPEN + "(", "3 at 13");
        fault("(.|".repeat(12) + "(", "3 at 36");
        // Those that are shut again do not count.
        fault(OPEN + ")()" + SHUT.substring(1), "0 at -1");
        fault(OPEN + ")((", "3 at 14");
        fault(OPEN + SHUT + OPEN + SHUT, "0 at -1");
        fault(OPEN + SHUT + OPEN + "(", "3 at 36");
        fault("()".repeat(50), "0 at -1");
        fault("()".repeat(13) + OPEN + SHUT, "0 at -1");
        fault("|".repeat(87) + OPEN + "(", "3 at 99");
    }

    private static void firstFromTheBeginning() {
        Kit.says("FAULTS, the first from the beginning on");
        fault("x" + TWELVE + ".", "1 at 0");
        fault(TWELVE + "x.", "1 at 12");
        fault(TWELVE + ".x", "2 at 12");
        fault("x" + OPEN + "(", "1 at 0");
        fault(OPEN + "x(", "1 at 12");
        fault(OPEN + "(x", "3 at 12");
        fault(OPEN + "a(", "1 at 13");
        fault(TWELVE + "." + OPEN + "(", "2 at 12");
        fault(TWELVE + OPEN + "(.", "3 at 24");
        fault(TWELVE + OPEN + ".(", "2 at 24");
        fault(OPEN + TWELVE + "(", "3 at 24");
        fault(OPEN + TWELVE + ".(", "2 at 24");
        fault("(.x", "1 at 2");
        fault("xy", "1 at 0");
    }

    private static void noneAtFirst() {
        Kit.says("0 when it met none, or there was none");
        StuckSearch x = new StuckSearch();
        Kit.due("no process() yet", 0, x::fault);
        Kit.write(x, "x");
        x.variable(2, 0);
        Kit.due("nor now", 0, x::fault);
        x.clear();
        Kit.due("nor behind clear", 0, x::fault);
        Kit.process(x, ".");
        Kit.due("it met none", 0, x::fault);
    }

    private static void ofTheLastText() {
        Kit.says("The fault that the last process() met");
        StuckSearch x = new StuckSearch();
        Kit.process(x, "....x");
        Kit.due("a fault", "1 at 4", () -> Kit.fault(x));
        x.wipe();
        Kit.due("stays when the tape is wiped", "1 at 4", () -> Kit.fault(x));
        x.feed(1, Kit.packed("."));
        x.variable(2, 0);
        x.restart();
        x.stuck();
        Kit.due("stays until the next text", "1 at 4", () -> Kit.fault(x));
        Kit.process(x, ".(((((((((((((");
        Kit.due("another fault", "3 at 13", () -> Kit.fault(x));
        Kit.process(x, TWELVE + ".");
        Kit.due("another fault", "2 at 12", () -> Kit.fault(x));
        Kit.process(x, "x");
        Kit.due("another fault", "1 at 0", () -> Kit.fault(x));
        Kit.process(x, ".");
        Kit.due("no fault", "0 at -1", () -> Kit.fault(x));
        Kit.process(x, "");
        Kit.due("no fault", "0 at -1", () -> Kit.fault(x));
    }

    private static void sixProcessesAreNotLookedAt() {
        Kit.says("met while there were less than 6");
        StuckSearch x = Kit.world("", ".", ".", ".", ".", ".");
        Kit.process(x, ".x");
        Kit.due("a fault with five", "1 at 1", () -> Kit.fault(x));
        Kit.process(x, ".");
        Kit.due("none with the sixth", "0 at -1", () -> Kit.fault(x));
        for (String text : new String[] {"x", TWELVE + ".", OPEN + "(", "("}) {
            Kit.due("a faulty seventh", StuckSearch.NONE, () -> Kit.process(x, text));
            Kit.due("is not looked at", "0 at -1", () -> Kit.fault(x));
        }
        x.clear();
        Kit.due("nor behind clear", "0 at -1", () -> Kit.fault(x));
        x.process();
        Kit.due("but now", "1 at 1", () -> Kit.fault(x));
    }

    private static void placeOfNoFault() {
        Kit.says("NONE when there is none");
        StuckSearch x = new StuckSearch();
        Kit.due("no process() yet", StuckSearch.NONE, x::faultAt);
        x.process();
        Kit.due("no thing", StuckSearch.NONE, x::faultAt);
        Kit.process(x, "x");
        Kit.due("a fault at the beginning", 0, x::faultAt);
        Kit.process(x, ".");
        Kit.due("none any more", StuckSearch.NONE, x::faultAt);
    }
}
