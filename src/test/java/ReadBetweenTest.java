/** Promise 5: read in FORM 0, and what is WRONG there. */
public final class ReadBetweenTest {
    private static final int N = QuerySteps.NONE;

    public static void main(String[] args) {
        terms();
        strengths();
        brackets();
        wrongTerms();
        wrongValues();
        wrongJoints();
        tooDeep();
        tooManyNodes();
        theTreeStays();
        Steps.end();
    }

    private static void terms() {
        Steps s = new Steps("a", "title");
        s.dueTree(0, "title=5", 0, 1, 5, N);
        s.dueTree(0, "a=0", 0, 0, 0, N);
        s.dueTree(0, "a=00007", 0, 0, 7, N);
        s.dueTree(0, "a=99999", 0, 0, 99999, N);
        s.dueTree(0, "a=7..9", 1, 0, 7, 9);
        s.dueTree(0, "a=9..9", 1, 0, 9, 9);
        s.dueTree(0, "a=9..10", 1, 0, 9, 10);
        s.dueTree(0, "a=00000..99999", 1, 0, 0, 99999);
        s.dueTree(0, "a=20*", 2, 0, 20, N);
        s.dueTree(0, "a=0*", 2, 0, 0, N);
    }

    private static void strengths() {
        Steps s = new Steps("a");
        int[] left = {5, N, N, N, 4, N, N, N, 0, 0, 1, N, 0, 0, 2, N, 0, 0, 3, N};
        s.dueTree(0, "a=1 or a=2 not a=3", left);
        s.dueTree(0, "a=1 not a=2 or a=3",
                4, N, N, N, 5, N, N, N, 0, 0, 1, N, 0, 0, 2, N, 0, 0, 3, N);
        s.dueTree(0, "a=1 and a=2 and a=3",
                3, N, N, N, 3, N, N, N, 0, 0, 1, N, 0, 0, 2, N, 0, 0, 3, N);
        s.dueTree(0, "a=1 or a=2 and a=3",
                4, N, N, N, 0, 0, 1, N, 3, N, N, N, 0, 0, 2, N, 0, 0, 3, N);
        s.dueTree(0, "a=1 not a=2 and a=3",
                5, N, N, N, 0, 0, 1, N, 3, N, N, N, 0, 0, 2, N, 0, 0, 3, N);
        s.dueTree(0, "a=1 and a=2 or a=3",
                4, N, N, N, 3, N, N, N, 0, 0, 1, N, 0, 0, 2, N, 0, 0, 3, N);
        s.dueTree(0, "a=1 or a=2 and a=3 and a=4 not a=5", 5, N, N, N, 4, N, N, N, 0, 0, 1, N, 3, N, N, N,
                3, N, N, N, 0, 0, 2, N, 0, 0, 3, N, 0, 0, 4, N, 0, 0, 5, N);
    }

    private static void brackets() {
        Steps s = new Steps("a");
        s.dueTree(0, "(a=1)", 0, 0, 1, N);
        s.dueTree(0, "((a=1*))", 2, 0, 1, N);
        s.dueTree(0, "a=1 or (a=2 not a=3)",
                4, N, N, N, 0, 0, 1, N, 5, N, N, N, 0, 0, 2, N, 0, 0, 3, N);
        s.dueTree(0, "(a=1 or a=2) and a=3",
                3, N, N, N, 4, N, N, N, 0, 0, 1, N, 0, 0, 2, N, 0, 0, 3, N);
        s.dueTree(0, "a=1 and (a=2 and a=3)",
                3, N, N, N, 0, 0, 1, N, 3, N, N, N, 0, 0, 2, N, 0, 0, 3, N);
    }

    private static void wrongTerms() {
        Steps s = new Steps("a", "ab");
        s.dueWrong(0, "", 0);
        s.dueWrong(0, " a=1", 0);
        s.dueWrong(0, "1", 0);
        s.dueWrong(0, "A=1", 0);
        s.dueWrong(0, "a", 1);
        s.dueWrong(0, "a =1", 1);
        s.dueWrong(0, "abc=1", 0);
        s.dueWrong(0, "abB=1", 2);
        s.dueWrong(0, "a=", 2);
        s.dueWrong(0, "a= 1", 2);
        s.dueWrong(0, "a==1", 2);
        s.dueWrong(0, "a=b", 2);
        s.dueWrong(0, "a=1b", 3);
        s.dueWrong(0, "a 1", 1);
        s.dueWrong(0, "()", 1);
        s.dueWrong(0, "( a=1)", 1);
        s.dueWrong(0, "(a=1", 4);
        s.dueWrong(0, "(a=1 )", 5);
        s.dueWrong(0, "(a=1))", 5);
        s.dueWrong(0, "a=1)", 3);
        s.dueWrong(0, ")", 0);
        s.dueWrong(0, "(a=1)(a=2)", 5);
        s.dueWrong(0, "(a=1)=2", 5);
    }

    private static void wrongValues() {
        Steps s = new Steps("a");
        s.dueWrong(0, "a=123456", 7);
        s.dueWrong(0, "a=000001", 7);
        s.dueWrong(0, "a=1234567", 7);
        s.dueWrong(0, "a=123456..9", 7);
        s.dueWrong(0, "a=1..123456", 10);
        s.dueWrong(0, "a=99999..100000", 14);
        s.dueWrong(0, "a=9..8", 5);
        s.dueWrong(0, "a=9..8x", 5);
        s.dueWrong(0, "a=100..99 and x=1", 7);
        s.dueWrong(0, "a=1.", 4);
        s.dueWrong(0, "a=1.5", 4);
        s.dueWrong(0, "a=1..", 5);
        s.dueWrong(0, "a=1...5", 5);
        s.dueWrong(0, "a=1..*", 5);
        s.dueWrong(0, "a=1..2*", 6);
        s.dueWrong(0, "a=1..2..3", 6);
        s.dueWrong(0, "a=1**", 4);
        s.dueWrong(0, "a=1*..2", 4);
        s.dueWrong(0, "a=*", 2);
        s.dueWrong(0, "a=-1", 2);
        s.dueWrong(0, "a=1 *", 4);
    }

    private static void wrongJoints() {
        Steps s = new Steps("a", "b");
        s.dueWrong(0, "a=1 ", 4);
        s.dueWrong(0, "a=1 and", 7);
        s.dueWrong(0, "a=1 and ", 8);
        s.dueWrong(0, "a=1 and  a=2", 8);
        s.dueWrong(0, "a=1  and a=2", 4);
        s.dueWrong(0, "a=1 And a=2", 4);
        s.dueWrong(0, "a=1 an", 4);
        s.dueWrong(0, "a=1 andb=2", 4);
        s.dueWrong(0, "a=1 xor a=2", 4);
        s.dueWrong(0, "a=1 b=2", 4);
        s.dueWrong(0, "a=1 and=2", 7);
        s.dueWrong(0, "a=1 or(a=2)", 6);
        s.dueWrong(0, "a=1 and and a=2", 8);
        s.dueWrong(0, "a=1 or not a=2", 7);
        s.dueWrong(0, "not a=2", 0);
        s.dueWrong(0, "a=1and a=2", 3);
        s.dueWrong(0, "a=1 and )", 8);
    }

    private static void tooDeep() {
        Steps s = new Steps("a");
        s.dueRead(0, Steps.times("(", 20) + "a=1" + Steps.times(")", 20), 1);
        s.dueWrong(0, Steps.times("(", 21) + "a=1" + Steps.times(")", 21), 20);
        s.dueWrong(0, Steps.times("(", 200), 20);
        s.dueRead(0, Steps.times("(", 20) + "a=1) or (a=2" + Steps.times(")", 20), 3);
        s.dueWrong(0, Steps.times("(", 20) + "a=1 or (a=2)" + Steps.times(")", 20), 27);
        s.dueRead(0, Steps.times("(a=1) or ", 11) + "(a=1)", 23);
    }

    private static void tooManyNodes() {
        Steps s = new Steps("a", "b");
        String twenty = Steps.times("a=1 or ", 20);
        s.dueRead(0, Steps.times("a=1 or ", 19) + "b=2", 39);
        s.dueUnknown(0, twenty + "b=2", 140, N);
        s.dueUnknown(0, twenty + "b", 140, N);
        s.dueUnknown(0, twenty + "bb", 140, 1);
        s.dueWrong(0, twenty + "(b=2)", 141);
        s.dueWrong(0, twenty + "2", 140);
        s.dueWrong(0, twenty, 140);
        s.dueWrong(0, Steps.times("a=1 or ", 19) + "b=2 xor a=1", 137);
    }

    private static void theTreeStays() {
        Steps s = new Steps("a");
        s.dueTree(0, "a=1 or a=2", 4, N, N, N, 0, 0, 1, N, 0, 0, 2, N);
        s.dueWrong(0, "a=3 and a=4 and x", 16);
        s.dueNodes("the tree before", 4, N, N, N, 0, 0, 1, N, 0, 0, 2, N);
        s.dueTree(0, "a=3", 0, 0, 3, N);
    }
}
