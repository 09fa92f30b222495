/** Promise 8: record. */
public final class RecordTest {
    public static void main(String[] args) {
        QuerySteps q = new QuerySteps();
        Steps.due("record(least long)", q.record(Long.MIN_VALUE), 1);
        Steps.due("record(least long) again", q.record(Long.MIN_VALUE), 2);
        Steps.due("record(-5)", q.record(-5), 3);
        Steps.due("record(-6)", q.record(-6), 0);
        Steps.due("record(-5) again", q.record(-5), 4);
        Steps.due("record(greatest long)", q.record(Long.MAX_VALUE), 5);
        Steps.due("record(below the greatest long)", q.record(Long.MAX_VALUE - 1), 0);
        for (int number = 6; number <= 60; number++) {
            Steps.due("record " + number, q.record(Long.MAX_VALUE), number);
        }
        Steps.due("record 61", q.record(Long.MAX_VALUE), 0);
        withoutEntries();
        Steps.end();
    }

    private static void withoutEntries() {
        Steps s = new Steps("a");
        s.saved(0, 0, "a=0..99999");
        Steps.due("record(3)", s.q.record(3), 1);
        s.dueHits("run(0)", s.q.run(0));
        Steps.due("record(2)", s.q.record(2), 0);
        Steps.due("entry of a record that did not come", s.q.entry(2, 0, 1), 0);
    }
}
