/** The terms: FORM 1. */
public final class ReadFrontTest {
    private static final int N = QuerySteps.NONE;

    public static void main(String[] args) {
        Steps.sentence("a LEAF as \"NAME value\"", ReadFrontTest::leaf);
        Steps.sentence("a RANGE as \"NAME value value\"", ReadFrontTest::range);
        Steps.sentence("BEGINS as \"NAME value *\"", ReadFrontTest::begins);
        Steps.sentence("others as \"and\", \"or\", \"not\" and two trees in ( and )", ReadFrontTest::branches);
        Steps.sentence("two trees: not fewer", ReadFrontTest::fewerTrees);
        Steps.sentence("two trees: not more", ReadFrontTest::moreTrees);
        Steps.sentence("in ( and ): each of them", ReadFrontTest::eachInBrackets);
        Steps.sentence("no brackets but these", ReadFrontTest::otherBrackets);
        Steps.sentence("one space between all", ReadFrontTest::oneSpace);
        Steps.sentence("one space within the brackets, too", ReadFrontTest::oneSpaceWithin);
        Steps.sentence("no space in front or at the end", ReadFrontTest::spaceAtTheEnds);
        Steps.sentence("A blank behind a NAME and a value, outside of all brackets, is followed by a second value"
                + " or *: else what stands behind it is WRONG", ReadFrontTest::blankOutside);
        Steps.sentence("within brackets it may be the one before )", ReadFrontTest::blankWithin);
        Steps.end();
    }

    private static void leaf() {
        Steps s = new Steps("a", "title");
        s.dueTree(1, "title 5", 0, 1, 5, N);
        s.dueTree(1, "a 0", 0, 0, 0, N);
        s.dueTree(1, "a 00012", 0, 0, 12, N);
        s.dueTree(1, "a 99999", 0, 0, 99999, N);
        s.dueWrong(1, "a", 1);
        s.dueWrong(1, "a ", 2);
        s.dueWrong(1, "a a", 2);
        s.dueWrong(1, "a=1", 1);
        s.dueWrong(1, "a1", 1);
        s.dueWrong(1, "a 1x", 3);
        s.dueWrong(1, "1", 0);
        s.dueWrong(1, "A 1", 0);
    }

    private static void range() {
        Steps s = new Steps("a");
        s.dueTree(1, "a 7 9", 1, 0, 7, 9);
        s.dueTree(1, "a 9 10", 1, 0, 9, 10);
        s.dueTree(1, "a 0 99999", 1, 0, 0, 99999);
        s.dueWrong(1, "a 1..2", 3);
        s.dueWrong(1, "a 1 ..", 4);
        s.dueWrong(1, "a 1 2 3", 5);
        s.dueWrong(1, "a 1 2 *", 5);
        s.dueWrong(1, "a 1 2*", 5);
        s.dueWrong(1, "a 1 2x", 5);
    }

    private static void begins() {
        Steps s = new Steps("a");
        s.dueTree(1, "a 20 *", 2, 0, 20, N);
        s.dueTree(1, "a 0 *", 2, 0, 0, N);
        s.dueTree(1, "a 99999 *", 2, 0, 99999, N);
        s.dueWrong(1, "a *", 2);
        s.dueWrong(1, "a 1*", 3);
        s.dueWrong(1, "a 1 **", 5);
        s.dueWrong(1, "a 1 *2", 5);
        s.dueWrong(1, "a 1 * 2", 5);
    }

    private static void branches() {
        Steps s = new Steps("a", "b");
        s.dueTree(1, "and ( a 1 ) ( b 2 3 )", 3, N, N, N, 0, 0, 1, N, 1, 1, 2, 3);
        s.dueTree(1, "or ( a 1 * ) ( b 2 )", 4, N, N, N, 2, 0, 1, N, 0, 1, 2, N);
        s.dueTree(1, "not ( a 1 2 ) ( b 2 * )", 5, N, N, N, 1, 0, 1, 2, 2, 1, 2, N);
        s.dueTree(1, "not ( or ( a 1 ) ( b 2 ) ) ( and ( a 3 ) ( b 4 ) )", 5, N, N, N, 4, N, N, N,
                0, 0, 1, N, 0, 1, 2, N, 3, N, N, N, 0, 0, 3, N, 0, 1, 4, N);
        s.dueWrong(1, "ando ( a 1 ) ( b 2 )", 0);
        s.dueWrong(1, "xor ( a 1 ) ( b 2 )", 0);
        s.dueWrong(1, "And ( a 1 ) ( b 2 )", 0);
        s.dueWrong(1, "a ( a 1 ) ( b 2 )", 2);
    }

    private static void fewerTrees() {
        Steps s = new Steps("a");
        s.dueWrong(1, "and", 3);
        s.dueWrong(1, "and ", 4);
        s.dueWrong(1, "not ( )", 6);
        s.dueWrong(1, "not ( a 1 )", 11);
        s.dueWrong(1, "not ( a 1 ) ", 12);
        s.dueWrong(1, "not ( a 1 ) ( )", 14);
        s.dueWrong(1, "or ( or ( a 1 ) ) ( a 1 )", 16);
    }

    private static void moreTrees() {
        Steps s = new Steps("a");
        s.dueWrong(1, "or ( a 1 ) ( a 2 ) ( a 3 )", 18);
        s.dueWrong(1, "or ( or ( a 1 ) ( a 2 ) ( a 3 ) ) ( a 1 )", 24);
        s.dueWrong(1, "or ( a 1 ) ( a 2 )x", 18);
        s.dueWrong(1, "or ( a 1 ) ( a 2 ))", 18);
    }

    private static void eachInBrackets() {
        Steps s = new Steps("a", "b");
        s.dueWrong(1, "and a 1", 4);
        s.dueWrong(1, "and ( a 1 ) b 2", 12);
        s.dueWrong(1, "and ( a 1 b 2 )", 10);
        s.dueWrong(1, "and ( a 1 ( b 2 )", 10);
        s.dueWrong(1, "and ( a 1 ) ( b 2 ", 18);
        s.dueWrong(1, "and ( a 1 ) ( b 2", 17);
        s.dueWrong(1, "and [ a 1 ]", 4);
    }

    private static void otherBrackets() {
        Steps s = new Steps("a");
        s.dueWrong(1, "( a 1 )", 0);
        s.dueWrong(1, "and ( ( a 1 ) )", 6);
        s.dueWrong(1, "and ( a ( 1 ) )", 8);
        s.dueWrong(1, ")", 0);
    }

    private static void oneSpace() {
        Steps s = new Steps("a", "b");
        s.dueWrong(1, "a  1", 2);
        s.dueWrong(1, "a 1  2", 4);
        s.dueWrong(1, "a 1  *", 4);
        s.dueWrong(1, "a\t1", 1);
        s.dueWrong(1, "and( a 1 ) ( b 2 )", 3);
        s.dueWrong(1, "and  ( a 1 ) ( b 2 )", 4);
        s.dueWrong(1, "and ( a 1 )( b 2 )", 11);
        s.dueWrong(1, "and ( a 1 )  ( b 2 )", 12);
    }

    private static void oneSpaceWithin() {
        Steps s = new Steps("a", "b");
        s.dueWrong(1, "and (a 1 ) ( b 2 )", 5);
        s.dueWrong(1, "and (  a 1 ) ( b 2 )", 6);
        s.dueWrong(1, "and ( a 1) ( b 2 )", 9);
        s.dueWrong(1, "and ( a 1  ) ( b 2 )", 10);
        s.dueWrong(1, "and ( a 1 2) ( b 2 )", 11);
        s.dueWrong(1, "and ( a 1 2  ) ( b 2 )", 12);
        s.dueWrong(1, "and ( a 1 *) ( b 2 )", 11);
        s.dueWrong(1, "and ( a 1 ) (b 2 )", 13);
        s.dueWrong(1, "and ( a 1 ) ( b 2)", 17);
        s.dueWrong(1, "or ( or ( a 1 ) ( b 2 )) ( a 1 )", 23);
    }

    private static void spaceAtTheEnds() {
        Steps s = new Steps("a", "b");
        s.dueWrong(1, " a 1", 0);
        s.dueWrong(1, "a 1 2 ", 5);
        s.dueWrong(1, "a 1 * ", 5);
        s.dueWrong(1, " and ( a 1 ) ( b 2 )", 0);
        s.dueWrong(1, "and ( a 1 ) ( b 2 ) ", 19);
    }

    private static void blankOutside() {
        Steps s = new Steps("a");
        s.dueWrong(1, "a 1 ", 4);
        s.dueWrong(1, "a 1 x", 4);
        s.dueWrong(1, "a 1 )", 4);
        s.dueWrong(1, "a 1 (", 4);
        s.dueWrong(1, "a 1  ", 4);
        s.dueWrong(1, "a 1 and", 4);
        s.dueRead(1, "a 1 1", 1);
        s.dueRead(1, "a 1 *", 1);
        s.dueWrong(1, "a 1)", 3);
    }

    private static void blankWithin() {
        Steps s = new Steps("a");
        s.dueTree(1, "or ( a 1 ) ( a 1 2 )", 4, N, N, N, 0, 0, 1, N, 1, 0, 1, 2);
        s.dueWrong(1, "or ( a 1 ", 9);
        s.dueWrong(1, "or ( a 1 x", 9);
        s.dueWrong(1, "or ( a 1 (", 9);
        s.dueWrong(1, "or ( a 1", 8);
        s.dueWrong(1, "or ( a 1 * *", 11);
        s.dueWrong(1, "or ( a 1 2 3", 11);
        s.dueWrong(1, "or ( a 1 ) ( a 1 ) )", 18);
    }
}
