import java.util.ArrayList;
import java.util.HashSet;
import java.util.List;
import java.util.Set;

/** The sentences that say what a text is: all rows of a few bytes, against those that they make. */
public final class GrammarTest {
    private static final String BYTES = "()|*.a+?1";
    private static final int LONGEST = 5;

    /** By their lengths, what the document's sentences make with a variable of size 2. */
    private final List<Set<String>> texts = new ArrayList<>();
    private final List<Set<String>> choices = new ArrayList<>();
    private final List<Set<String>> things = new ArrayList<>();

    public static void main(String[] args) {
        GrammarTest test = new GrammarTest();
        for (int length = 0; length <= LONGEST; length++) {
            test.make(length);
        }
        test.allRows();
        Kit.finish();
    }

    private void make(int length) {
        things.add(thingsOf(length));
        choices.add(rowsOf(length, things, "", choices));
        if (length == 0) {
            choices.get(0).add("");
        }
        texts.add(new HashSet<>(choices.get(length)));
        texts.get(length).addAll(rowsOf(length - 1, choices, "|", texts));
    }

    private Set<String> thingsOf(int length) {
        Set<String> made = new HashSet<>();
        for (String act : new String[] {".", "a+", "a?1"}) {
            if (act.length() == length) {
                made.add(act);
            }
        }
        if (length > 1) {
            texts.get(length - 2).forEach(text -> made.add("(" + text + ")"));
            things.get(length - 1).forEach(thing -> made.add(thing + "*"));
        }
        return made;
    }

    /** One of the former and one of the latter behind it, which together are so long. */
    private static Set<String> rowsOf(int length, List<Set<String>> former, String between, List<Set<String>> latter) {
        Set<String> made = new HashSet<>();
        for (int of = 0; of <= length; of++) {
            if (of < former.size() && length - of < latter.size()) {
                for (String one : former.get(of)) {
                    latter.get(length - of).forEach(other -> made.add(one + between + other));
                }
            }
        }
        return made;
    }

    private void allRows() {
        List<String> rows = List.of("");
        List<String> faults = List.of("0 at -1");
        for (int length = 1; length <= LONGEST; length++) {
            List<String> longer = new ArrayList<>();
            List<String> theirs = new ArrayList<>();
            for (int i = 0; i < rows.size(); i++) {
                for (char next : BYTES.toCharArray()) {
                    longer.add(rows.get(i) + next);
                    theirs.add(faultOf(rows.get(i), faults.get(i), next));
                }
            }
            rows = longer;
            faults = theirs;
        }
    }

    /** The fault of a row and a byte behind it, of which the row's own fault is known. */
    private String faultOf(String row, String before, char next) {
        String text = row + next;
        boolean right = texts.get(text.length()).contains(text);
        StuckSearch x = Kit.world("20");
        Kit.says("CHOICES with | between them, one or more. A choice: no thing, or some behind one another."
            + " A thing: an ACT, or ( and a text and ), and any number of * behind it. An act: a point;");
        Kit.due("process of " + text, right ? 0 : StuckSearch.NONE, () -> Kit.process(x, text));
        Kit.due("whether " + text + " has a fault", right ? 0 : 1, x::fault);
        Kit.says("FAULTS, the first from the beginning on");
        if (!before.equals("0 at -1") && !before.equals("1 at " + row.length())) {
            Kit.due("fault of " + row + " with " + next, before, () -> Kit.fault(x));
        }
        return Kit.fault(x);
    }
}
