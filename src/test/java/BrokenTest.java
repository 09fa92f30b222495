/** Promise 15: broken. */
public final class BrokenTest {
    public static void main(String[] args) {
        Steps s = new Steps("a", "b", "c");
        Steps.due("broken() without questions", s.q.broken(), 0);
        s.q.on(2, false);
        Steps.due("broken() without questions, one off", s.q.broken(), 0);
        s.saved(0, 0, "a=1");
        s.saved(5, 0, "b=1..2 and a=1");
        s.saved(9, 0, "a=1 or b=1 and a=2 not b=4*");
        Steps.due("broken() with all theirs on", s.q.broken(), 0);
        dueWithOff(s, 0, 3);
        dueWithOff(s, 1, 2);
        s.q.on(1, false);
        s.q.on(0, false);
        Steps.due("broken(), each counted once", s.q.broken(), 3);
        s.saved(9, 0, "c=1");
        Steps.due("broken(), saved while off", s.q.broken(), 3);
        s.q.on(2, true);
        Steps.due("broken() with c on", s.q.broken(), 2);
        s.saved(0, 0, "c=1");
        Steps.due("broken() with a new one in place", s.q.broken(), 1);
        allTen();
        Steps.end();
    }

    private static void dueWithOff(Steps s, int index, int want) {
        s.q.on(index, false);
        Steps.due("broken() with " + index + " off", s.q.broken(), want);
        s.q.on(index, true);
        Steps.due("broken() with " + index + " on", s.q.broken(), 0);
    }

    private static void allTen() {
        Steps s = new Steps("a");
        for (int i = 0; i < 10; i++) {
            s.saved(i, 1, "a 1");
        }
        s.q.on(0, false);
        Steps.due("broken() of ten", s.q.broken(), 10);
    }
}
