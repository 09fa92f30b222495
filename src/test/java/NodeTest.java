/** Promise 6: node. */
public final class NodeTest {
    private static final int N = QuerySteps.NONE;
    private static final int[] FAR = {Integer.MAX_VALUE, Integer.MIN_VALUE, 256, -256};

    public static void main(String[] args) {
        Steps.sentence("a node, then its first tree, then its second one", NodeTest::order);
        Steps.sentence("from 0 on", NodeTest::fromZeroOn);
        Steps.sentence("what 0: its sort, 0 .. 5", NodeTest::sorts);
        Steps.sentence("1: its index, or NONE", NodeTest::indexes);
        Steps.sentence("2: its value, or the least one, or NONE", NodeTest::values);
        Steps.sentence("3: the greatest one, or NONE", NodeTest::greatests);
        Steps.sentence("NONE if there is none such", NodeTest::noNode);
        Steps.sentence("NONE if there is none such: no tree yet", NodeTest::noTree);
        Steps.sentence("NONE if there is none such: of a tree before that was larger", NodeTest::smallerTree);
        Steps.sentence("or for another what", NodeTest::anotherWhat);
        Steps.sentence("the last node of the largest tree", NodeTest::largestTree);
        Steps.end();
    }

    /** All six sorts in eleven nodes. */
    private static Steps sixSorts() {
        Steps s = new Steps("a", "b");
        s.read(0, "a=1 and b=2..3 or (a=4* not b=5) and (a=0..0 or b=99999)");
        return s;
    }

    private static void order() {
        sixSorts().dueNodes("six sorts", 4, N, N, N, 3, N, N, N, 0, 0, 1, N, 1, 1, 2, 3, 3, N, N, N,
                5, N, N, N, 2, 0, 4, N, 0, 1, 5, N, 4, N, N, N, 1, 0, 0, 0, 0, 1, 99999, N);
    }

    private static void fromZeroOn() {
        Steps s = sixSorts();
        Steps.due("node(0, 0)", s.q.node(0, 0), 4);
        Steps.due("node(10, 0)", s.q.node(10, 0), 0);
    }

    private static void sorts() {
        Steps s = sixSorts();
        int[] want = {4, 3, 0, 1, 3, 5, 2, 0, 4, 1, 0};
        for (int i = 0; i < want.length; i++) {
            Steps.due("node(" + i + ", 0)", s.q.node(i, 0), want[i]);
        }
    }

    private static void indexes() {
        Steps s = sixSorts();
        int[] want = {N, N, 0, 1, N, N, 0, 1, N, 0, 1};
        for (int i = 0; i < want.length; i++) {
            Steps.due("node(" + i + ", 1)", s.q.node(i, 1), want[i]);
        }
    }

    private static void values() {
        Steps s = sixSorts();
        int[] want = {N, N, 1, 2, N, N, 4, 5, N, 0, 99999};
        for (int i = 0; i < want.length; i++) {
            Steps.due("node(" + i + ", 2)", s.q.node(i, 2), want[i]);
        }
    }

    private static void greatests() {
        Steps s = sixSorts();
        int[] want = {N, N, N, 3, N, N, N, N, N, 0, N};
        for (int i = 0; i < want.length; i++) {
            Steps.due("node(" + i + ", 3)", s.q.node(i, 3), want[i]);
        }
    }

    private static void dueNoNode(Steps s, int i) {
        for (int what = 0; what < 4; what++) {
            Steps.due("node(" + i + ", " + what + ")", s.q.node(i, what), N);
        }
    }

    private static void noNode() {
        Steps s = sixSorts();
        dueNoNode(s, -1);
        for (int i = 11; i < 50; i++) {
            dueNoNode(s, i);
        }
        for (int i : FAR) {
            dueNoNode(s, i);
        }
    }

    private static void noTree() {
        Steps s = new Steps("a");
        dueNoNode(s, 0);
        s.dueWrong(0, "a=1 or", 6);
        dueNoNode(s, 0);
    }

    private static void smallerTree() {
        Steps s = sixSorts();
        s.dueRead(1, "b 7", 1);
        s.dueNodes("b 7", 0, 1, 7, N);
        for (int i = 1; i < 12; i++) {
            dueNoNode(s, i);
        }
    }

    private static void anotherWhat() {
        Steps s = sixSorts();
        int[] others = {-1, 4, 5, 9};
        for (int what : others) {
            Steps.due("node(3, " + what + ")", s.q.node(3, what), N);
        }
        for (int what : FAR) {
            Steps.due("node(3, " + what + ")", s.q.node(3, what), N);
        }
    }

    private static void largestTree() {
        Steps s = new Steps("a");
        s.read(0, Steps.times("a=1 or ", 19) + "a=2..3");
        Steps.due("node(18, 0)", s.q.node(18, 0), 4);
        Steps.due("node(19, 0)", s.q.node(19, 0), 0);
        Steps.due("node(38, 0)", s.q.node(38, 0), 1);
        Steps.due("node(38, 3)", s.q.node(38, 3), 3);
        dueNoNode(s, 39);
        dueNoNode(s, 40);
    }
}
