/** Promise 3: index. */
public final class IndexTest {
    private static final int NONE = QuerySteps.NONE;

    public static void main(String[] args) {
        namesAreOneToEightSmallLetters();
        eightIndexesAtMost();
        nothingIsCollectedAnyMore();
        newOnesAreOn();
        Steps.end();
    }

    private static void namesAreOneToEightSmallLetters() {
        Steps s = new Steps("a", "abcdefgh", "z", "ab");
        String[] none = {"", "abcdefghi", "A", "aB", "a1", "a b", "a ", " a", "a=", "`", "{", "and", "or", "not",
            "a", "abcdefgh", "z", "ab", "\u00e9"};
        for (String name : none) {
            Steps.due("index of '" + name + "'", s.index(name), NONE);
        }
        String[] fine = {"ands", "an", "o", "nota"};
        for (int i = 0; i < fine.length; i++) {
            Steps.due("index of '" + fine[i] + "'", s.index(fine[i]), 4 + i);
        }
        s.dueTree(0, "ands=1 and nota=2", 3, NONE, NONE, NONE, 0, 4, 1, NONE, 0, 7, 2, NONE);
    }

    private static void eightIndexesAtMost() {
        Steps s = new Steps("a", "b", "c", "d", "e", "f", "g", "h");
        Steps.due("index of a ninth", s.index("i"), NONE);
        s.dueWrong(0, "i=1", 0);
        s.dueTree(0, "h=1", 0, 7, 1, NONE);
    }

    private static void nothingIsCollectedAnyMore() {
        Steps s = new Steps("a");
        s.dueWrong(0, "", 0);
        Steps.due("index of A", s.index("A"), NONE);
        s.dueRead(0, "a=1", 1);
        Steps.due("index of a again", s.index("a"), NONE);
        Steps.due("index of b", s.index("b"), 1);
        Steps full = new Steps("a", "b", "c", "d", "e", "f", "g", "h");
        full.index("i");
        full.dueRead(0, "a=1", 1);
    }

    private static void newOnesAreOn() {
        Steps s = new Steps("a", "b");
        Steps.due("on(1, true)", s.q.on(1, true), true);
    }
}
