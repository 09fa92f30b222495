/** Promise 4: on. */
public final class OnTest {
    public static void main(String[] args) {
        Steps s = new Steps("a", "b");
        Steps.due("on(0, false)", s.q.on(0, false), true);
        Steps.due("on(0, false) again", s.q.on(0, false), false);
        Steps.due("on(1, true)", s.q.on(1, true), true);
        Steps.due("on(0, true)", s.q.on(0, true), false);
        Steps.due("on(0, true) again", s.q.on(0, true), true);
        int[] none = {-1, 2, 7, 8, Integer.MAX_VALUE, Integer.MIN_VALUE};
        for (int index : none) {
            Steps.due("on(" + index + ", true)", s.q.on(index, true), false);
            Steps.due("on(" + index + ", true) again", s.q.on(index, true), false);
        }
        offIsStillAnIndex(s);
        Steps.end();
    }

    private static void offIsStillAnIndex(Steps s) {
        s.q.on(0, false);
        s.dueRead(0, "a=1", 1);
        Steps.due("index of a, which is off", s.index("a"), QuerySteps.NONE);
        Steps.due("on(0, false), as index left it", s.q.on(0, false), false);
        Steps.due("record", s.q.record(1), 1);
        Steps.due("entry of an index that is off", s.q.entry(1, 0, 1), 1);
        s.dueUnknown(0, "aa=1", 0, 0);
    }
}
