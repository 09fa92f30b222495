import java.util.ArrayList;
import java.util.List;
import java.util.Map;
import java.util.Set;
import java.util.TreeSet;
import java.util.regex.Matcher;
import java.util.regex.Pattern;

/**
 * "WRONG is the first sign that does not fit, or the end": all short texts behind some beginnings, against
 * the forms written as rules, of which all that may still follow is kept at each sign.
 */
public final class FirstSignTest {
    private static final String[] NAMES = {"a", "an"};
    private static final String SIGNS = "anor=12.*() ";
    private static final int MORE_SIGNS = 3;
    private static final Map<Character, List<String>> BETWEEN = Map.of(
            'S', List.of("T", "T W S"),
            'T', List.of("N=V", "N=V..V", "N=V*", "(S)"));
    private static final Map<Character, List<String>> FRONT = Map.of(
            'S', List.of("N V", "N V V", "N V *", "W ( S ) ( S )"));
    private static final Map<Character, List<String>> BOTH = Map.of(
            'N', List.of("a", "an"),
            'W', List.of("and", "or", "not"),
            'V', List.of("D", "DD", "DDD", "DDDD", "DDDDD"),
            'D', List.of("0", "1", "2"));
    private static final String[] BETWEEN_BEGINNINGS = {
        "", "a", "an", "(", "((a=1", "(a=1 or ", "a=2", "a=12", "a=2.", "a=2..", "a=11..1", "a=22222..1111",
        "a=2*", "a=1 ", "a=1 an", "a=1 and ", "a=1 or (", "a=1 not an=2", "(a=1)", "(a=1..2) ", "an=1111"};
    private static final String[] FRONT_BEGINNINGS = {
        "", "a", "an", "or", "and ", "not (", "or ( ", "or ( a 1", "or ( a 1 ", "or ( a 1 *", "or ( an 2 1",
        "or ( a 1 )", "or ( a 1 ) ( ", "or ( a 1 ) ( an 1 ", "or ( a 1 ) ( a 1 )", "a 1 ", "a 2", "a 21 ",
        "a 22222 1111", "an 1111", "or ( and ( a 1 )", "or ( not ( a 1 ) ( a 1 ) "};

    private final int form;
    private final Pattern range;
    private Steps steps = new Steps(NAMES);
    private int wholeTexts = 0;
    private int unknownRows = 0;

    private FirstSignTest(int form) {
        this.form = form;
        range = Pattern.compile(form == 0 ? "([0-9]+)\\.\\.([0-9]{1,5})(?![0-9])"
                : "[a-z] ([0-9]+) ([0-9]{1,5})(?![0-9])");
    }

    public static void main(String[] args) {
        Steps.sentence("WRONG is the first sign that does not fit: FORM 0",
                () -> new FirstSignTest(0).dueBehind(BETWEEN_BEGINNINGS));
        Steps.sentence("WRONG is the first sign that does not fit: FORM 1",
                () -> new FirstSignTest(1).dueBehind(FRONT_BEGINNINGS));
        Steps.end();
    }

    private void dueBehind(String[] beginnings) {
        for (String beginning : beginnings) {
            dueAll(beginning, MORE_SIGNS);
        }
        // The texts are of use only if some of each kind come.
        Steps.due("some whole texts", wholeTexts > 50, true);
        Steps.due("some UNKNOWN rows", unknownRows > 500, true);
    }

    private void dueAll(String text, int moreSigns) {
        dueOne(text);
        for (int i = 0; i < SIGNS.length() && moreSigns > 0; i++) {
            dueAll(text + SIGNS.charAt(i), moreSigns - 1);
        }
    }

    private void dueOne(String text) {
        int fits = signsThatFit(text);
        int place = wrongPlace(text, fits);
        String unknown = unknownRow(text, place);
        if (steps.q.count() + text.length() + 2 > Calls.MOST) {
            steps = new Steps(NAMES);
        }
        int got = steps.read(form, text);
        if (place < 0) {
            wholeTexts++;
            Steps.due("'" + text + "' is whole in FORM " + form, got > 0, true);
        } else {
            Steps.due("read(" + form + ") of '" + text + "'", got, -1 - place);
        }
        Steps.due("near() after '" + text + "' in FORM " + form, steps.q.near(), nearest(unknown));
    }

    /** Where a text is WRONG, or -1 if it is whole. */
    private int wrongPlace(String text, int fits) {
        int row = rowStart(text, fits);
        if (row >= 0 && !isRowRight(text, row)) {
            return Math.min(row, rangeThatIsBelow(text, row));
        }
        int below = rangeThatIsBelow(text, fits);
        if (below < fits) {
            return below;
        }
        return fits == text.length() && follow(text).contains("") ? -1 : fits;
    }

    /** The start of the row of small letters that holds a place or ends there, or -1. */
    private static int rowStart(String text, int place) {
        int start = place;
        while (start > 0 && isLetter(text.charAt(start - 1))) {
            start--;
        }
        return start < text.length() && isLetter(text.charAt(start)) ? start : -1;
    }

    private static int rowEnd(String text, int start) {
        int end = start;
        while (end < text.length() && isLetter(text.charAt(end))) {
            end++;
        }
        return end;
    }

    private static boolean isLetter(char c) {
        return c >= 'a' && c <= 'z';
    }

    /** Whether another sign than a letter may come behind the row: then it is a whole NAME or word. */
    private boolean isRowRight(String text, int start) {
        String row = text.substring(0, rowEnd(text, start));
        return !follow(row + "=").isEmpty() || !follow(row + " ").isEmpty();
    }

    /** The place of the first RANGE's second value that is below its first one, else the place given. */
    private int rangeThatIsBelow(String text, int place) {
        Matcher m = range.matcher(text);
        int from = 0;
        while (m.find(from) && m.end() <= place) {
            if (Integer.parseInt(m.group(2)) < Integer.parseInt(m.group(1))) {
                return m.start(2);
            }
            from = m.start(2);
        }
        return place;
    }

    private String unknownRow(String text, int place) {
        if (place < 0 || place >= text.length() || !isLetter(text.charAt(place)) || isRowRight(text, place)) {
            return null;
        }
        String before = text.substring(0, place);
        boolean isForName = !follow(before + (form == 0 ? "a=" : "a ")).isEmpty();
        return isForName ? text.substring(place, rowEnd(text, place)) : null;
    }

    private int nearest(String unknown) {
        if (unknown == null) {
            return QuerySteps.NONE;
        }
        unknownRows++;
        return Oracle.distance(unknown, NAMES[0]) <= Oracle.distance(unknown, NAMES[1]) ? 0 : 1;
    }

    private int signsThatFit(String text) {
        Set<String> rows = Set.of("S");
        int fits = 0;
        while (fits < text.length()) {
            rows = behind(rows, text.charAt(fits));
            if (rows.isEmpty()) {
                break;
            }
            fits++;
        }
        return fits;
    }

    /** All rows of rules and signs that may follow a text; the empty one among them says that it is whole. */
    private Set<String> follow(String text) {
        Set<String> rows = Set.of("S");
        for (int i = 0; i < text.length(); i++) {
            rows = behind(rows, text.charAt(i));
        }
        return rows;
    }

    private Set<String> behind(Set<String> rows, char sign) {
        Set<String> next = new TreeSet<>();
        List<String> open = new ArrayList<>(rows);
        while (!open.isEmpty()) {
            String row = open.remove(open.size() - 1);
            if (row.isEmpty()) {
                continue;
            }
            List<String> choices = choices(row.charAt(0));
            for (String choice : choices) {
                open.add(choice + row.substring(1));
            }
            if (choices.isEmpty() && row.charAt(0) == sign) {
                next.add(row.substring(1));
            }
        }
        return next;
    }

    private List<String> choices(char rule) {
        List<String> own = (form == 0 ? BETWEEN : FRONT).get(rule);
        return own != null ? own : BOTH.getOrDefault(rule, List.of());
    }
}
