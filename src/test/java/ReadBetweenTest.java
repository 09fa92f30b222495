/** The terms: FORM 0. */
public final class ReadBetweenTest {
    private static final int N = QuerySteps.NONE;

    public static void main(String[] args) {
        Steps.sentence("TERM: a NAME, then =, then a value", ReadBetweenTest::leaf);
        Steps.sentence("or a value, .. and a value (a RANGE)", ReadBetweenTest::range);
        Steps.sentence("or a value and * (BEGINS)", ReadBetweenTest::begins);
        Steps.sentence("or a QUESTION in ( and )", ReadBetweenTest::brackets);
        Steps.sentence("a QUESTION in ( and ): not an empty one", ReadBetweenTest::emptyBrackets);
        Steps.sentence("a QUESTION in ( and ): as many ) as (", ReadBetweenTest::unevenBrackets);
        Steps.sentence("no space within brackets", ReadBetweenTest::spaceInBrackets);
        Steps.sentence("A QUESTION: TERMS with and, or, not between", ReadBetweenTest::between);
        Steps.sentence("between: one, not none and not two", ReadBetweenTest::oneBetween);
        Steps.sentence("between: not in front and not at the end", ReadBetweenTest::notAtTheEnds);
        Steps.sentence("(a space before each)", ReadBetweenTest::spaceBefore);
        Steps.sentence("(a space behind each)", ReadBetweenTest::spaceBehind);
        Steps.sentence("no other space in a text", ReadBetweenTest::otherSpaces);
        Steps.sentence("and before or and not", ReadBetweenTest::andIsStronger);
        Steps.sentence("which are of one strength", ReadBetweenTest::oneStrength);
        Steps.sentence("all from the left to the right", ReadBetweenTest::fromLeftToRight);
        Steps.sentence("brackets before strength", ReadBetweenTest::bracketsBeforeStrength);
        Steps.end();
    }

    private static void leaf() {
        Steps s = new Steps("a", "title");
        s.dueTree(0, "title=5", 0, 1, 5, N);
        s.dueTree(0, "a=0", 0, 0, 0, N);
        s.dueTree(0, "a=00007", 0, 0, 7, N);
        s.dueTree(0, "a=99999", 0, 0, 99999, N);
        s.dueWrong(0, "1", 0);
        s.dueWrong(0, "=1", 0);
        s.dueWrong(0, "A=1", 0);
        s.dueWrong(0, "a", 1);
        s.dueWrong(0, "aB=1", 1);
        s.dueWrong(0, "a1", 1);
        s.dueWrong(0, "a=", 2);
        s.dueWrong(0, "a==1", 2);
        s.dueWrong(0, "a=a", 2);
        s.dueWrong(0, "a=-1", 2);
        s.dueWrong(0, "a=1b", 3);
        s.dueWrong(0, "a=1=2", 3);
    }

    private static void range() {
        Steps s = new Steps("a");
        s.dueTree(0, "a=7..9", 1, 0, 7, 9);
        s.dueTree(0, "a=9..10", 1, 0, 9, 10);
        s.dueTree(0, "a=00000..99999", 1, 0, 0, 99999);
        s.dueWrong(0, "a=..9", 2);
        s.dueWrong(0, "a=1.", 4);
        s.dueWrong(0, "a=1.5", 4);
        s.dueWrong(0, "a=1..", 5);
        s.dueWrong(0, "a=1...5", 5);
        s.dueWrong(0, "a=1..*", 5);
        s.dueWrong(0, "a=1..a", 5);
        s.dueWrong(0, "a=1..2*", 6);
        s.dueWrong(0, "a=1..2..3", 6);
        s.dueWrong(0, "a=1..2b", 6);
    }

    private static void begins() {
        Steps s = new Steps("a");
        s.dueTree(0, "a=20*", 2, 0, 20, N);
        s.dueTree(0, "a=0*", 2, 0, 0, N);
        s.dueTree(0, "a=00000*", 2, 0, 0, N);
        s.dueTree(0, "a=99999*", 2, 0, 99999, N);
        s.dueWrong(0, "a=*", 2);
        s.dueWrong(0, "a=1**", 4);
        s.dueWrong(0, "a=1*2", 4);
        s.dueWrong(0, "a=1*..2", 4);
    }

    private static void brackets() {
        Steps s = new Steps("a");
        s.dueTree(0, "(a=1)", 0, 0, 1, N);
        s.dueTree(0, "((a=1*))", 2, 0, 1, N);
        s.dueTree(0, "(a=1..2) or ((a=3))", 4, N, N, N, 1, 0, 1, 2, 0, 0, 3, N);
        s.dueWrong(0, "(a=1)=2", 5);
        s.dueWrong(0, "(a=1)*", 5);
        s.dueWrong(0, "(a)=1", 2);
        s.dueWrong(0, "a=(1)", 2);
        s.dueWrong(0, "[a=1]", 0);
    }

    private static void emptyBrackets() {
        Steps s = new Steps("a");
        s.dueWrong(0, "()", 1);
        s.dueWrong(0, "(())", 2);
        s.dueWrong(0, "a=1 or ()", 8);
        s.dueWrong(0, "(", 1);
    }

    private static void unevenBrackets() {
        Steps s = new Steps("a");
        s.dueWrong(0, "(a=1", 4);
        s.dueWrong(0, "((a=1)", 6);
        s.dueWrong(0, "(a=1 or (a=2)", 13);
        s.dueWrong(0, "(a=1))", 5);
        s.dueWrong(0, "a=1)", 3);
        s.dueWrong(0, ")", 0);
        s.dueWrong(0, "(a=1) or a=2)", 12);
    }

    private static void spaceInBrackets() {
        Steps s = new Steps("a");
        s.dueWrong(0, "( a=1)", 1);
        s.dueWrong(0, "(a=1 )", 5);
        s.dueWrong(0, "( (a=1))", 1);
        s.dueWrong(0, "((a=1) )", 7);
    }

    private static void between() {
        Steps s = new Steps("a");
        s.dueTree(0, "a=1 and a=2", 3, N, N, N, 0, 0, 1, N, 0, 0, 2, N);
        s.dueTree(0, "a=1 or a=2", 4, N, N, N, 0, 0, 1, N, 0, 0, 2, N);
        s.dueTree(0, "a=1 not a=2", 5, N, N, N, 0, 0, 1, N, 0, 0, 2, N);
    }

    private static void oneBetween() {
        Steps s = new Steps("a", "b");
        s.dueWrong(0, "a=1 b=2", 4);
        s.dueWrong(0, "a=1b=2", 3);
        s.dueWrong(0, "(a=1)(a=2)", 5);
        s.dueWrong(0, "(a=1) (a=2)", 6);
        s.dueWrong(0, "a=1 and and a=2", 8);
        s.dueWrong(0, "a=1 and not a=2", 8);
        s.dueWrong(0, "a=1 or not a=2", 7);
    }

    private static void notAtTheEnds() {
        Steps s = new Steps("a");
        s.dueWrong(0, "and a=2", 0);
        s.dueWrong(0, "or a=2", 0);
        s.dueWrong(0, "not a=2", 0);
        s.dueWrong(0, "(not a=2)", 1);
        s.dueWrong(0, "a=1 and", 7);
        s.dueWrong(0, "a=1 or ", 7);
        s.dueWrong(0, "(a=1 not )", 9);
        s.dueWrong(0, "a=1 and )", 8);
    }

    private static void spaceBefore() {
        Steps s = new Steps("a");
        s.dueWrong(0, "a=1and a=2", 3);
        s.dueWrong(0, "(a=1)or a=2", 5);
        s.dueWrong(0, "a=1  and a=2", 4);
        s.dueWrong(0, "a=1..2not a=2", 6);
        s.dueWrong(0, "a=1*or a=2", 4);
        s.dueWrong(0, "a=1\tor a=2", 3);
    }

    private static void spaceBehind() {
        Steps s = new Steps("a");
        s.dueWrong(0, "a=1 or(a=2)", 6);
        s.dueWrong(0, "a=1 and=2", 7);
        s.dueWrong(0, "a=1 not1", 7);
        s.dueWrong(0, "a=1 and  a=2", 8);
        s.dueWrong(0, "a=1 and\ta=2", 7);
    }

    private static void otherSpaces() {
        Steps s = new Steps("a");
        s.dueWrong(0, " a=1", 0);
        s.dueWrong(0, "a =1", 1);
        s.dueWrong(0, "a= 1", 2);
        s.dueWrong(0, "a=1 ..2", 4);
        s.dueWrong(0, "a=1.. 2", 5);
        s.dueWrong(0, "a=1. .2", 4);
        s.dueWrong(0, "a=1 *", 4);
        s.dueWrong(0, "a=1 2", 4);
        s.dueWrong(0, "a=1 ", 4);
    }

    private static void andIsStronger() {
        Steps s = new Steps("a");
        s.dueTree(0, "a=1 or a=2 and a=3",
                4, N, N, N, 0, 0, 1, N, 3, N, N, N, 0, 0, 2, N, 0, 0, 3, N);
        s.dueTree(0, "a=1 not a=2 and a=3",
                5, N, N, N, 0, 0, 1, N, 3, N, N, N, 0, 0, 2, N, 0, 0, 3, N);
        s.dueTree(0, "a=1 and a=2 or a=3",
                4, N, N, N, 3, N, N, N, 0, 0, 1, N, 0, 0, 2, N, 0, 0, 3, N);
        s.dueTree(0, "a=1 and a=2 not a=3",
                5, N, N, N, 3, N, N, N, 0, 0, 1, N, 0, 0, 2, N, 0, 0, 3, N);
        s.dueTree(0, "a=1 or a=2 and a=3 and a=4 not a=5", 5, N, N, N, 4, N, N, N, 0, 0, 1, N, 3, N, N, N,
                3, N, N, N, 0, 0, 2, N, 0, 0, 3, N, 0, 0, 4, N, 0, 0, 5, N);
    }

    private static void oneStrength() {
        Steps s = new Steps("a");
        s.dueTree(0, "a=1 or a=2 not a=3",
                5, N, N, N, 4, N, N, N, 0, 0, 1, N, 0, 0, 2, N, 0, 0, 3, N);
        s.dueTree(0, "a=1 not a=2 or a=3",
                4, N, N, N, 5, N, N, N, 0, 0, 1, N, 0, 0, 2, N, 0, 0, 3, N);
    }

    private static void fromLeftToRight() {
        Steps s = new Steps("a");
        s.dueTree(0, "a=1 and a=2 and a=3",
                3, N, N, N, 3, N, N, N, 0, 0, 1, N, 0, 0, 2, N, 0, 0, 3, N);
        s.dueTree(0, "a=1 or a=2 or a=3",
                4, N, N, N, 4, N, N, N, 0, 0, 1, N, 0, 0, 2, N, 0, 0, 3, N);
        s.dueTree(0, "a=1 not a=2 not a=3",
                5, N, N, N, 5, N, N, N, 0, 0, 1, N, 0, 0, 2, N, 0, 0, 3, N);
    }

    private static void bracketsBeforeStrength() {
        Steps s = new Steps("a");
        s.dueTree(0, "a=1 or (a=2 not a=3)",
                4, N, N, N, 0, 0, 1, N, 5, N, N, N, 0, 0, 2, N, 0, 0, 3, N);
        s.dueTree(0, "(a=1 or a=2) and a=3",
                3, N, N, N, 4, N, N, N, 0, 0, 1, N, 0, 0, 2, N, 0, 0, 3, N);
        s.dueTree(0, "a=1 and (a=2 and a=3)",
                3, N, N, N, 0, 0, 1, N, 3, N, N, N, 0, 0, 2, N, 0, 0, 3, N);
        s.dueTree(0, "a=1 and (a=2 or a=3) and a=4", 3, N, N, N, 3, N, N, N, 0, 0, 1, N, 4, N, N, N,
                0, 0, 2, N, 0, 0, 3, N, 0, 0, 4, N);
    }
}
