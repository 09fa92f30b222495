/** Promise 5: read, whatever the form. */
public final class ReadTest {
    private static final int N = QuerySteps.NONE;
    private static final String[] WHOLE = {"a=1", "a 1"};

    public static void main(String[] args) {
        Steps.sentence("What is collected is read in a form, 0 or 1", ReadTest::formsZeroAndOne);
        Steps.sentence("(another one: 1)", ReadTest::anotherForm);
        Steps.sentence("how many nodes: 1 at least", ReadTest::oneNode);
        Steps.sentence("how many nodes: 39 at most, as trees have an odd count", ReadTest::mostNodes);
        Steps.sentence("that is THE TREE", ReadTest::theTree);
        Steps.sentence("nothing is collected any more", ReadTest::nothingIsCollectedAnyMore);
        Steps.sentence("nothing is collected any more if it is WRONG, either", ReadTest::clearedIfWrong);
        Steps.sentence("-1 less the place if it is WRONG: the first place is -1", ReadTest::firstPlace);
        Steps.sentence("-1 less the place if it is WRONG: the last sign is -200", ReadTest::lastPlace);
        Steps.sentence("-1 less the place if it is WRONG: the end of 200 signs is -201", ReadTest::lastEnd);
        Steps.sentence("nothing collected is WRONG at its end", ReadTest::emptyText);
        Steps.sentence("THE TREE stays if it is WRONG", ReadTest::theTreeStays);
        Steps.sentence("no tree stays no tree if it is WRONG", ReadTest::noTreeStays);
        Steps.sentence("THE TREE may be of one index more or less than there are", ReadTest::indexesComeLater);
        Steps.end();
    }

    private static void formsZeroAndOne() {
        Steps s = new Steps("a");
        s.dueTree(0, "a=1", 0, 0, 1, N);
        s.dueWrong(0, "a 1", 1);
        s.dueTree(1, "a 1", 0, 0, 1, N);
        s.dueWrong(1, "a=1", 1);
    }

    private static void anotherForm() {
        Steps s = new Steps("a");
        int[] forms = {-1, 2, 3, 7, 256, Integer.MAX_VALUE, Integer.MIN_VALUE};
        for (int form : forms) {
            s.dueRead(form, "a 1", 1);
            s.dueWrong(form, "a=1", 1);
        }
    }

    private static void oneNode() {
        Steps s = new Steps("a");
        s.dueRead(0, "a=1", 1);
        s.dueRead(0, "((a=1))", 1);
        s.dueRead(1, "a 1", 1);
    }

    private static void mostNodes() {
        Steps s = new Steps("a");
        s.dueRead(0, "a=1 or a=1", 3);
        s.dueRead(0, Steps.times("a=1 or ", 18) + "a=1", 37);
        s.dueRead(0, Steps.times("a=1 or ", 19) + "a=1", 39);
        Steps.due("node(38, 0)", s.q.node(38, 0), 0);
        Steps.due("node(39, 0)", s.q.node(39, 0), N);
    }

    private static void theTree() {
        Steps s = new Steps("a");
        s.dueTree(0, "a=1 or a=2", 4, N, N, N, 0, 0, 1, N, 0, 0, 2, N);
        s.dueTree(1, "a 3", 0, 0, 3, N);
        s.dueTree(0, "a=4 and a=5..6", 3, N, N, N, 0, 0, 4, N, 1, 0, 5, 6);
    }

    private static void nothingIsCollectedAnyMore() {
        Steps s = new Steps("a");
        for (int form = 0; form < 2; form++) {
            s.dueRead(form, WHOLE[form], 1);
            Steps.due("read(" + form + ") again", s.q.read(form), -1);
            s.dueRead(form, WHOLE[form], 1);
            Steps.due("index() after read", s.q.index(), N);
            s.dueRead(form, WHOLE[form], 1);
        }
    }

    private static void clearedIfWrong() {
        Steps s = new Steps("a");
        String[] wrong = {"a", "b=1", "a=123456", "x", "("};
        for (String text : wrong) {
            for (int form = 0; form < 2; form++) {
                Steps.due("'" + text + "' is WRONG", s.read(form, text) < 0, true);
                s.dueRead(form, WHOLE[form], 1);
            }
        }
    }

    private static void firstPlace() {
        Steps s = new Steps("a");
        s.dueRead(0, "?", -1);
        s.dueRead(1, "?", -1);
        s.dueRead(0, "b=1", -1);
        s.dueRead(0, "a?", -2);
        s.dueRead(1, "a?", -2);
    }

    private static void lastPlace() {
        String first = Steps.times("(a=1) and ", 19);
        new Steps("a").dueRead(0, first + "(a=12345)?", -200);
        new Steps("a").dueRead(0, first + "(a=12345))", -200);
        new Steps("a").dueRead(0, first + "((a=1234)?", -200);
    }

    private static void lastEnd() {
        String first = Steps.times("(a=1) and ", 19);
        new Steps("a").dueRead(0, first + "((a=12345)", -201);
        new Steps("a").dueRead(0, first + "(((((((a=1", -201);
        new Steps("a").dueRead(1, Steps.times("or ( ", 19) + "a 1 ) ( a 1 ) ) ( a 1 ) ) ( a 1 ) ) ( a 1 ) ) ( a 1 ) )"
                + " ( a 1 ) ) ( a 1 ) ) ( a 1 ) ) ( a 1 ) ) ( a 1 ) )", -201);
    }

    private static void emptyText() {
        Steps s = new Steps("a");
        s.dueWrong(0, "", 0);
        s.dueWrong(1, "", 0);
        s.dueWrong(2, "", 0);
    }

    private static void theTreeStays() {
        Steps s = new Steps("a");
        int[] kept = {4, N, N, N, 0, 0, 1, N, 0, 0, 2, N};
        s.dueTree(0, "a=1 or a=2", kept);
        s.dueWrong(0, "a=3 and a=4 and x", 16);
        s.dueNodes("the tree before", kept);
        s.dueWrong(0, "a=3)", 3);
        s.dueNodes("the tree before", kept);
        s.dueWrong(1, "and ( a 1 ) ( a 2 )x", 19);
        s.dueNodes("the tree before", kept);
        s.dueWrong(0, "", 0);
        s.dueNodes("the tree before", kept);
        s.dueWrong(0, Steps.times("a=5 or ", 20) + "a=5", 140);
        s.dueNodes("the tree before", kept);
        Steps.due("save(0)", s.q.save(0), 1);
        s.saved(1, 0, "a=1 or a=2");
        Steps.due("same(0, 1)", s.q.same(0, 1), true);
    }

    private static void noTreeStays() {
        Steps s = new Steps("a");
        s.dueWrong(0, "a=1 or a=", 9);
        s.dueNodes("no tree");
        s.dueWrong(1, "a 1 2 3", 5);
        s.dueNodes("no tree");
        Steps.due("save(0)", s.q.save(0), 0);
    }

    private static void indexesComeLater() {
        Steps s = new Steps("a");
        s.dueWrong(0, "b=1", 0);
        s.dueTree(0, "a=1", 0, 0, 1, N);
        Steps.due("index of b", s.index("b"), 1);
        s.dueNodes("the tree before", 0, 0, 1, N);
        s.dueTree(0, "b=1", 0, 1, 1, N);
    }
}
