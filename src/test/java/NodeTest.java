/** Promise 6: node. */
public final class NodeTest {
    private static final int N = QuerySteps.NONE;

    public static void main(String[] args) {
        Steps s = new Steps("a", "b");
        s.dueTree(0, "a=1 and (b=2..3 not b=4*)",
                3, N, N, N, 0, 0, 1, N, 5, N, N, N, 1, 1, 2, 3, 2, 1, 4, N);
        int[] noNode = {-1, 5, 39, 40, Integer.MAX_VALUE, Integer.MIN_VALUE};
        for (int i : noNode) {
            for (int what = 0; what < 4; what++) {
                Steps.due("node(" + i + ", " + what + ")", s.q.node(i, what), N);
            }
        }
        int[] noWhat = {-1, 4, Integer.MAX_VALUE, Integer.MIN_VALUE};
        for (int what : noWhat) {
            Steps.due("node(1, " + what + ")", s.q.node(1, what), N);
        }
        // A smaller tree leaves nothing of the larger one behind.
        s.dueTree(1, "b 7", 0, 1, 7, N);
        Steps.due("node(1, 1)", s.q.node(1, 1), N);
        Steps.end();
    }
}
