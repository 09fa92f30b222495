/** Promise 13: at. */
public final class AtTest {
    public static void main(String[] args) {
        Steps s = new Steps("a");
        Steps.due("at(0) before a run", s.q.at(0), 0);
        for (int i = 1; i <= 3; i++) {
            s.q.record(i);
            s.q.entry(i, 0, i);
        }
        s.saved(0, 0, "a=1..3");
        s.saved(1, 0, "a=2");
        s.dueHits("run(0)", s.q.run(0), 3, 2, 1);
        int[] none = {-1, 3, 59, 60, Integer.MAX_VALUE, Integer.MIN_VALUE};
        for (int i : none) {
            Steps.due("at(" + i + ")", s.q.at(i), 0);
        }
        s.q.record(4);
        s.q.entry(4, 0, 1);
        Steps.due("at(0): a new record changes no hits", s.q.at(0), 3);
        s.dueHits("run(1)", s.q.run(1), 2);
        Steps.due("at(1): nothing of the hits before", s.q.at(1), 0);
        s.saved(2, 0, "a=9");
        s.dueHits("run(2)", s.q.run(2));
        Steps.end();
    }
}
