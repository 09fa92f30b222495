/** Promise 14: same. */
public final class SameTest {
    public static void main(String[] args) {
        dueSame("a=1", "a=1", true);
        dueSame("a=1", "a=001", true);
        dueSame("a=1", "(a=1)", true);
        dueSame("a=1", "a=2", false);
        dueSame("a=1", "b=1", false);
        dueSame("a=1", "a=1*", false);
        dueSame("a=1", "a=1..1", false);
        dueSame("a=1..2", "a=1..3", false);
        dueSame("a=1..3", "a=2..3", false);
        dueSame("a=1 and a=2", "a=2 and a=1", false);
        dueSame("a=1 and a=2", "a=1 or a=2", false);
        dueSame("a=1 or a=2 not b=3", "(a=1 or a=2) not b=3", true);
        dueSame("a=1 or a=2 not b=3", "a=1 or (a=2 not b=3)", false);
        dueSame("a=1 and a=2 and b=3", "a=1 and (a=2 and b=3)", false);
        dueSame("a=1 or a=2", "a=1 or a=2 or a=3", false);
        bothForms();
        notThere();
        Steps.end();
    }

    private static void dueSame(String first, String second, boolean want) {
        Steps s = new Steps("a", "b");
        s.saved(0, 0, first);
        s.saved(9, 0, second);
        Steps.due("same of " + first + " and " + second, s.q.same(0, 9), want);
        Steps.due("same of " + second + " and " + first, s.q.same(9, 0), want);
        Steps.due("same of " + first + " and itself", s.q.same(0, 0), true);
    }

    private static void bothForms() {
        Steps s = new Steps("title", "year");
        s.saved(0, 0, "year=1999 and title=5 or title=7..9 not (year=20*)");
        s.saved(1, 1, "not ( or ( and ( year 1999 ) ( title 5 ) ) ( title 7 9 ) ) ( year 20 * )");
        Steps.due("same of both forms", s.q.same(0, 1), true);
        s.q.on(0, false);
        Steps.due("same of BROKEN ones", s.q.same(0, 1), true);
    }

    private static void notThere() {
        Steps s = new Steps("a");
        s.saved(4, 0, "a=1");
        int[] none = {-1, 0, 3, 5, 10, Integer.MAX_VALUE, Integer.MIN_VALUE};
        for (int question : none) {
            Steps.due("same(4, " + question + ")", s.q.same(4, question), false);
            Steps.due("same(" + question + ", 4)", s.q.same(question, 4), false);
            Steps.due("same(" + question + ", " + question + ")", s.q.same(question, question), false);
        }
    }
}
