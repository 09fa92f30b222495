/** Promise 14: same. */
public final class SameTest {
    public static void main(String[] args) {
        Steps.sentence("the same tree: sort", SameTest::sorts);
        Steps.sentence("the same tree: index", () -> dueSame("a=1", "b=1", false));
        Steps.sentence("the same tree: value", SameTest::values);
        Steps.sentence("the same tree: the least and the greatest one", SameTest::ranges);
        Steps.sentence("the same tree: the order of two trees", SameTest::order);
        Steps.sentence("the same tree: how they hang together", SameTest::shape);
        Steps.sentence("the same tree: not only the beginning of it", SameTest::beginnings);
        Steps.sentence("the same tree, however it was written", SameTest::howeverWritten);
        Steps.sentence("two text forms read to the same trees", SameTest::bothForms);
        Steps.sentence("the same tree, to the last of the most nodes", SameTest::largestTrees);
        Steps.sentence("false if one is not there: no such number", SameTest::noSuchNumber);
        Steps.sentence("false if one is not there: not saved yet", SameTest::notSaved);
        Steps.sentence("a question is the same as itself", SameTest::itself);
        Steps.sentence("BROKEN ones are the same, too", SameTest::brokenOnes);
        Steps.sentence("looked at or not, they are the same", SameTest::lookedAt);
        Steps.end();
    }

    private static void dueSame(String first, String second, boolean want) {
        Steps s = new Steps("a", "b");
        s.saved(0, 0, first);
        s.saved(9, 0, second);
        Steps.due("same of " + first + " and " + second, s.q.same(0, 9), want);
        Steps.due("same of " + second + " and " + first, s.q.same(9, 0), want);
    }

    private static void sorts() {
        dueSame("a=1", "a=1*", false);
        dueSame("a=1", "a=1..1", false);
        dueSame("a=1*", "a=1..1", false);
        dueSame("a=1 and a=2", "a=1 or a=2", false);
        dueSame("a=1 not a=2", "a=1 or a=2", false);
    }

    private static void values() {
        dueSame("a=1", "a=2", false);
        dueSame("a=1*", "a=10*", false);
        dueSame("a=0", "a=99999", false);
        dueSame("a=1", "a=1", true);
    }

    private static void ranges() {
        dueSame("a=1..2", "a=1..3", false);
        dueSame("a=1..3", "a=2..3", false);
        dueSame("a=1..3", "a=1..3", true);
    }

    private static void order() {
        dueSame("a=1 and a=2", "a=2 and a=1", false);
        dueSame("a=1 or a=2", "a=2 or a=1", false);
    }

    private static void shape() {
        dueSame("a=1 or a=2 not b=3", "a=1 or (a=2 not b=3)", false);
        dueSame("a=1 and a=2 and b=3", "a=1 and (a=2 and b=3)", false);
    }

    private static void beginnings() {
        dueSame("a=1 or a=2", "a=1 or a=2 or a=3", false);
        dueSame("a=1", "a=1 or a=2", false);
    }

    private static void howeverWritten() {
        dueSame("a=1", "a=001", true);
        dueSame("a=1", "(a=1)", true);
        dueSame("a=1 or a=2 not b=3", "(a=1 or a=2) not b=3", true);
        dueSame("a=1 or a=2 and b=3", "a=1 or (a=2 and b=3)", true);
    }

    private static void bothForms() {
        Steps s = new Steps("title", "year");
        s.saved(0, 0, "year=1999 and title=5 or title=7..9 not (year=20*)");
        s.saved(1, 1, "not ( or ( and ( year 1999 ) ( title 5 ) ) ( title 7 9 ) ) ( year 20 * )");
        Steps.due("same(0, 1)", s.q.same(0, 1), true);
        s.saved(1, 1, "not ( or ( and ( year 1999 ) ( title 5 ) ) ( title 7 9 ) ) ( year 21 * )");
        Steps.due("same(0, 1) of another one", s.q.same(0, 1), false);
    }

    private static void largestTrees() {
        String first = Steps.times("a=1 or ", 19);
        dueSame(first + "a=1", first + "a=1", true);
        dueSame(first + "a=1", first + "a=2", false);
        dueSame(first + "a=1..2", first + "a=1..3", false);
    }

    private static void noSuchNumber() {
        Steps s = new Steps("a");
        for (int question = 0; question < 10; question++) {
            s.saved(question, 0, "a=1");
        }
        int[] none = {-1, 10, 256, Integer.MAX_VALUE, Integer.MIN_VALUE};
        for (int question : none) {
            Steps.due("same(4, " + question + ")", s.q.same(4, question), false);
            Steps.due("same(" + question + ", 4)", s.q.same(question, 4), false);
            Steps.due("same(" + question + ", " + question + ")", s.q.same(question, question), false);
        }
        Steps.due("same(0, 9)", s.q.same(0, 9), true);
    }

    private static void notSaved() {
        Steps s = new Steps("a");
        s.saved(4, 0, "a=1");
        int[] none = {0, 3, 5, 9};
        for (int question : none) {
            Steps.due("same(4, " + question + ")", s.q.same(4, question), false);
            Steps.due("same(" + question + ", 4)", s.q.same(question, 4), false);
            Steps.due("same(" + question + ", " + question + ")", s.q.same(question, question), false);
        }
        Steps.due("same(0, 9), neither is there", s.q.same(0, 9), false);
    }

    private static void itself() {
        Steps s = new Steps("a", "b");
        s.saved(0, 0, "a=1 or b=2..3");
        s.saved(9, 0, "a=1*");
        Steps.due("same(0, 0)", s.q.same(0, 0), true);
        Steps.due("same(9, 9)", s.q.same(9, 9), true);
    }

    private static void brokenOnes() {
        Steps s = new Steps("a");
        s.saved(0, 0, "a=1");
        s.saved(1, 0, "a=1");
        s.q.on(0, false);
        Steps.due("same(0, 1)", s.q.same(0, 1), true);
        Steps.due("same(0, 0)", s.q.same(0, 0), true);
    }

    private static void lookedAt() {
        Steps s = new Steps("a");
        s.saved(0, 0, "a=1");
        s.saved(1, 0, "a=1");
        s.q.record(1);
        s.q.alert(0);
        Steps.due("same(0, 1)", s.q.same(0, 1), true);
    }
}
