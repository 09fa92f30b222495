/** Promise 9: entry. */
public final class EntryTest {
    public static void main(String[] args) {
        Steps s = new Steps("a", "b");
        s.q.record(1);
        s.q.record(1);
        int[][] none = {{0, 0, 1}, {3, 0, 1}, {-1, 0, 1}, {61, 0, 1}, {Integer.MAX_VALUE, 0, 1},
            {Integer.MIN_VALUE, 0, 1}, {1, -1, 1}, {1, 2, 1}, {1, 8, 1}, {1, Integer.MAX_VALUE, 1},
            {1, 0, -1}, {1, 0, 100000}, {1, 0, Integer.MIN_VALUE}, {1, 0, Integer.MAX_VALUE}};
        for (int[] e : none) {
            Steps.due("entry(" + e[0] + ", " + e[1] + ", " + e[2] + ")", s.q.entry(e[0], e[1], e[2]), 0);
        }
        for (int i = 1; i <= 8; i++) {
            Steps.due("entry " + i + " of record 1", s.q.entry(1, i % 2, i == 8 ? 99999 : 0), i);
        }
        Steps.due("entry 9 of record 1", s.q.entry(1, 0, 5), 0);
        Steps.due("entry 1 of record 2", s.q.entry(2, 1, 5), 1);
        s.saved(0, 0, "a=99999");
        s.dueHits("run of the last entry", s.q.run(0), 1);
        s.saved(0, 0, "a=5");
        s.dueHits("run of the entry that was one too many", s.q.run(0));
        s.saved(0, 0, "b=5");
        s.dueHits("run of record 2", s.q.run(0), 2);
        lastRecord();
        Steps.end();
    }

    private static void lastRecord() {
        Steps s = new Steps("a");
        for (int i = 0; i < 60; i++) {
            s.q.record(i);
        }
        for (int i = 1; i <= 8; i++) {
            Steps.due("entry " + i + " of record 60", s.q.entry(60, 0, i), i);
        }
        Steps.due("entry 9 of record 60", s.q.entry(60, 0, 9), 0);
        s.saved(9, 0, "a=8");
        s.dueHits("run of record 60", s.q.run(9), 60);
    }
}
