/** Promise 5: read in FORM 1, and what is WRONG there. */
public final class ReadFrontTest {
    private static final int N = QuerySteps.NONE;

    public static void main(String[] args) {
        leaves();
        branches();
        everyOtherFormIsOne();
        wrongLeaves();
        wrongBranches();
        tooDeep();
        theTreeStays();
        Steps.end();
    }

    private static void leaves() {
        Steps s = new Steps("a", "title");
        s.dueTree(1, "title 5", 0, 1, 5, N);
        s.dueTree(1, "a 00012", 0, 0, 12, N);
        s.dueTree(1, "a 7 9", 1, 0, 7, 9);
        s.dueTree(1, "a 9 9", 1, 0, 9, 9);
        s.dueTree(1, "a 0 99999", 1, 0, 0, 99999);
        s.dueTree(1, "a 20 *", 2, 0, 20, N);
    }

    private static void branches() {
        Steps s = new Steps("a", "b");
        s.dueTree(1, "and ( a 1 ) ( b 2 3 )", 3, N, N, N, 0, 0, 1, N, 1, 1, 2, 3);
        s.dueTree(1, "or ( a 1 * ) ( b 2 )", 4, N, N, N, 2, 0, 1, N, 0, 1, 2, N);
        s.dueTree(1, "not ( a 1 2 ) ( b 2 * )", 5, N, N, N, 1, 0, 1, 2, 2, 1, 2, N);
        s.dueTree(1, "not ( or ( a 1 ) ( b 2 ) ) ( and ( a 3 ) ( b 4 ) )", 5, N, N, N, 4, N, N, N,
                0, 0, 1, N, 0, 1, 2, N, 3, N, N, N, 0, 0, 3, N, 0, 1, 4, N);
    }

    private static void everyOtherFormIsOne() {
        Steps s = new Steps("a");
        int[] forms = {1, 2, 7, -1, Integer.MAX_VALUE, Integer.MIN_VALUE};
        for (int form : forms) {
            s.dueRead(form, "a 1", 1);
            s.dueWrong(form, "a=1", 1);
        }
        s.dueWrong(0, "a 1", 1);
    }

    private static void wrongLeaves() {
        Steps s = new Steps("a", "ab");
        s.dueWrong(1, "", 0);
        s.dueWrong(1, " a 1", 0);
        s.dueWrong(1, "( a 1 )", 0);
        s.dueWrong(1, "a", 1);
        s.dueWrong(1, "a ", 2);
        s.dueWrong(1, "a  1", 2);
        s.dueWrong(1, "a *", 2);
        s.dueWrong(1, "abc 1", 0);
        s.dueWrong(1, "a 1 ", 4);
        s.dueWrong(1, "a 1 x", 4);
        s.dueWrong(1, "a 1 )", 4);
        s.dueWrong(1, "a 1  2", 4);
        s.dueWrong(1, "a 1x", 3);
        s.dueWrong(1, "a 1)", 3);
        s.dueWrong(1, "a 1*", 3);
        s.dueWrong(1, "a 1..2", 3);
        s.dueWrong(1, "a 1 2 ", 5);
        s.dueWrong(1, "a 1 2 3", 5);
        s.dueWrong(1, "a 1 2 *", 5);
        s.dueWrong(1, "a 1 * ", 5);
        s.dueWrong(1, "a 1 **", 5);
        s.dueWrong(1, "a 123456", 7);
        s.dueWrong(1, "a 1 123456", 9);
        s.dueWrong(1, "a 9 8", 4);
        s.dueWrong(1, "a 9 8x", 4);
    }

    private static void wrongBranches() {
        Steps s = new Steps("a", "b");
        s.dueWrong(1, "and", 3);
        s.dueWrong(1, "and ", 4);
        s.dueWrong(1, "and(", 3);
        s.dueWrong(1, "and a 1", 4);
        s.dueWrong(1, "and (", 5);
        s.dueWrong(1, "and (a 1 )", 5);
        s.dueWrong(1, "and ( ", 6);
        s.dueWrong(1, "and ( )", 6);
        s.dueWrong(1, "and ( ( a 1 ) )", 6);
        s.dueWrong(1, "and ( a 1", 9);
        s.dueWrong(1, "and ( a 1)", 9);
        s.dueWrong(1, "and ( a 1 ", 10);
        s.dueWrong(1, "and ( a 1 x", 10);
        s.dueWrong(1, "and ( a 9 8 )", 10);
        s.dueWrong(1, "and ( a 1 2)", 11);
        s.dueWrong(1, "and ( a 1 * *", 12);
        s.dueWrong(1, "and ( a 1 2 3", 12);
        s.dueWrong(1, "and ( a 1 )", 11);
        s.dueWrong(1, "and ( a 1 ) ", 12);
        s.dueWrong(1, "and ( a 1 ) b 2", 12);
        s.dueWrong(1, "and ( a 1 )( b 2 )", 11);
        s.dueWrong(1, "and ( a 1 ) ( b 2 ) ", 19);
        s.dueWrong(1, "and ( a 1 ) ( b 2 )x", 19);
        s.dueWrong(1, "and ( a 1 ) ( b 2 ", 18);
        s.dueWrong(1, "ando ( a 1 ) ( b 2 )", 0);
        s.dueWrong(1, "And ( a 1 ) ( b 2 )", 0);
    }

    private static void tooDeep() {
        Steps s = new Steps("a");
        String twenty = Steps.times("or ( ", 20);
        s.dueWrong(1, twenty + "a 1 x", 104);
        s.dueWrong(1, twenty + "or ( a 1 )", 103);
        s.dueWrong(1, twenty + "or (", 103);
        s.dueWrong(1, twenty + "or x", 103);
        s.dueWrong(1, twenty + "or", 102);
        s.dueWrong(1, twenty + "xor", 100);
        s.dueWrong(1, twenty + "a 1 ) ( or (", 111);
        // Eight brackets deep and whole fits into the 200 signs.
        s.dueRead(1, Steps.times("or ( ", 8) + "a 1" + Steps.times(" ) ( a 1 )", 8), 17);
    }

    private static void theTreeStays() {
        Steps s = new Steps("a");
        s.dueTree(1, "a 4 5", 1, 0, 4, 5);
        s.dueWrong(1, "and ( a 1 ) ( a 2 )x", 19);
        s.dueNodes("the tree before", 1, 0, 4, 5);
        s.dueTree(1, "a 3", 0, 0, 3, N);
    }
}
