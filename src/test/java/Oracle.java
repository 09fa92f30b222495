import java.util.ArrayDeque;
import java.util.ArrayList;
import java.util.Arrays;
import java.util.Deque;
import java.util.List;
import java.util.regex.Matcher;
import java.util.regex.Pattern;

/** The document's forms, written once more in another way: by patterns and stacks instead of recursion. */
final class Oracle {
    private static final List<String> JOINTS = List.of("and", "or", "not");

    /** A tree's nodes as objects. */
    static final class Node {
        final int sort;
        final int index;
        final int least;
        final int greatest;
        Node first;
        Node second;

        Node(int sort, int index, int least, int greatest) {
            this.sort = sort;
            this.index = index;
            this.least = least;
            this.greatest = greatest;
        }

        Node(int sort, Node first, Node second) {
            this(sort, -1, -1, -1);
            this.first = first;
            this.second = second;
        }

        List<Integer> numbers() {
            List<Integer> all = new ArrayList<>(List.of(sort, index, least, greatest));
            if (first != null) {
                all.addAll(first.numbers());
                all.addAll(second.numbers());
            }
            return all;
        }

        boolean meets(List<int[]> entries) {
            switch (sort) {
                case 3: return first.meets(entries) && second.meets(entries);
                case 4: return first.meets(entries) || second.meets(entries);
                case 5: return first.meets(entries) && !second.meets(entries);
                default: return entries.stream().anyMatch(e -> e[0] == index && meetsValue(e[1]));
            }
        }

        private boolean meetsValue(int value) {
            switch (sort) {
                case 0: return value == least;
                case 1: return value >= least && value <= greatest;
                default: return String.valueOf(value).startsWith(String.valueOf(least));
            }
        }
    }

    private static final class Wrong extends Exception {
        private static final long serialVersionUID = 1L;
    }

    private final List<String> names;
    private final String text;
    private int place = 0;
    private int nodes = 0;
    /** The row that was UNKNOWN, or null. */
    String unknown = null;
    /** What was read, or null if the text is WRONG. */
    Node tree = null;
    /** What read answers. */
    int answer;

    Oracle(List<String> names, int form, String text) {
        this.names = names;
        this.text = text.length() > 200 ? text.substring(0, 200) : text;
        try {
            Node whole = form == 0 ? between() : front();
            need(place == this.text.length());
            tree = whole;
            answer = nodes;
        } catch (Wrong w) {
            answer = -1 - place;
        }
    }

    int near() {
        int best = -1;
        for (int i = 0; unknown != null && i < names.size(); i++) {
            if (best < 0 || distance(unknown, names.get(i)) < distance(unknown, names.get(best))) {
                best = i;
            }
        }
        return best;
    }

    static int distance(String a, String b) {
        int[][] d = new int[a.length() + 1][b.length() + 1];
        for (int[] row : d) {
            Arrays.fill(row, 1000);
        }
        d[0][0] = 0;
        for (int i = 0; i <= a.length(); i++) {
            for (int j = 0; j <= b.length(); j++) {
                if (i > 0) {
                    d[i][j] = Math.min(d[i][j], d[i - 1][j] + 1);
                }
                if (j > 0) {
                    d[i][j] = Math.min(d[i][j], d[i][j - 1] + 1);
                }
                if (i > 0 && j > 0) {
                    d[i][j] = Math.min(d[i][j], d[i - 1][j - 1] + (a.charAt(i - 1) == b.charAt(j - 1) ? 0 : 1));
                }
            }
        }
        return d[a.length()][b.length()];
    }

    private void need(boolean fits) throws Wrong {
        if (!fits) {
            throw new Wrong();
        }
    }

    private String match(String pattern) {
        Matcher m = Pattern.compile(pattern).matcher(text).region(place, text.length());
        return m.lookingAt() ? m.group() : "";
    }

    private void exact(String signs) throws Wrong {
        for (int i = 0; i < signs.length(); i++) {
            need(text.startsWith(signs.substring(i, i + 1), place));
            place++;
        }
    }

    private int name() throws Wrong {
        String row = match("[a-z]+");
        need(!row.isEmpty());
        if (!names.contains(row)) {
            unknown = row;
        }
        need(names.contains(row) && nodes < 40);
        nodes++;
        place += row.length();
        return names.indexOf(row);
    }

    private int value() throws Wrong {
        String digits = match("[0-9]+");
        if (digits.length() > 5) {
            place += 5;
        }
        need(!digits.isEmpty() && digits.length() <= 5);
        place += digits.length();
        return Integer.parseInt(digits);
    }

    private Node range(int index, int least) throws Wrong {
        int start = place;
        int greatest = value();
        if (greatest < least) {
            place = start;
        }
        need(greatest >= least);
        return new Node(1, index, least, greatest);
    }

    /** Two stacks: the brackets and joints that wait, and the trees that are whole. */
    private Node between() throws Wrong {
        Deque<String> waiting = new ArrayDeque<>();
        Deque<Node> whole = new ArrayDeque<>();
        int depth = 0;
        while (true) {
            while (!match("\\(").isEmpty()) {
                need(depth < 20);
                depth++;
                waiting.push("(");
                place++;
            }
            whole.push(term());
            while (depth > 0 && !match("\\)").isEmpty()) {
                while (!waiting.peek().equals("(")) {
                    join(waiting, whole);
                }
                waiting.pop();
                depth--;
                place++;
            }
            if (match(" ").isEmpty()) {
                need(depth == 0);
                break;
            }
            place++;
            String word = match("[a-z]+");
            need(JOINTS.contains(word) && nodes < 40);
            nodes++;
            place += word.length();
            exact(" ");
            while (!waiting.isEmpty() && strength(waiting.peek()) >= strength(word)) {
                join(waiting, whole);
            }
            waiting.push(word);
        }
        while (!waiting.isEmpty()) {
            join(waiting, whole);
        }
        return whole.pop();
    }

    private static int strength(String waiting) {
        return waiting.equals("(") ? 0 : waiting.equals("and") ? 2 : 1;
    }

    private static void join(Deque<String> waiting, Deque<Node> whole) {
        Node second = whole.pop();
        Node first = whole.pop();
        whole.push(new Node(3 + JOINTS.indexOf(waiting.pop()), first, second));
    }

    private Node term() throws Wrong {
        int index = name();
        exact("=");
        int value = value();
        if (!match("\\*").isEmpty()) {
            exact("*");
            return new Node(2, index, value, -1);
        }
        if (!match("\\.").isEmpty()) {
            exact("..");
            return range(index, value);
        }
        return new Node(0, index, value, -1);
    }

    /** A stack of the joints whose trees are not whole yet. */
    private Node front() throws Wrong {
        Deque<Node> open = new ArrayDeque<>();
        while (true) {
            String word = match("[a-z]+");
            if (JOINTS.contains(word)) {
                need(nodes < 40);
                nodes++;
                place += word.length();
                open.push(new Node(3 + JOINTS.indexOf(word), null, null));
                openBracket(open.size());
                continue;
            }
            Node done = leaf(open.isEmpty());
            while (!open.isEmpty() && open.peek().first != null) {
                exact(" )");
                open.peek().second = done;
                done = open.pop();
            }
            if (open.isEmpty()) {
                return done;
            }
            exact(" )");
            open.peek().first = done;
            openBracket(open.size());
        }
    }

    private void openBracket(int depth) throws Wrong {
        exact(" ");
        need(depth <= 20);
        exact("( ");
    }

    private Node leaf(boolean outside) throws Wrong {
        int index = name();
        exact(" ");
        int value = value();
        if (match(outside ? " " : " (?!\\))").isEmpty()) {
            return new Node(0, index, value, -1);
        }
        exact(" ");
        if (!match("\\*").isEmpty()) {
            exact("*");
            return new Node(2, index, value, -1);
        }
        return range(index, value);
    }
}
