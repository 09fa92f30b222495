/** Promise 8: record, and the RECORDS of the terms. */
public final class RecordTest {
    public static void main(String[] args) {
        Steps.sentence("RECORDS are 1 .. 60", RecordTest::oneToSixty);
        Steps.sentence("as they come: its number", RecordTest::asTheyCome);
        Steps.sentence("a MOMENT (a long)", RecordTest::momentsAreLongs);
        Steps.sentence("without entries", RecordTest::withoutEntries);
        Steps.sentence("0 if there are 60", RecordTest::sixtyAtMost);
        Steps.sentence("0 if the MOMENT is below the latest one's", RecordTest::belowTheLatest);
        Steps.sentence("the same MOMENT is not below", RecordTest::theSameMoment);
        Steps.sentence("the latest one's: a refused MOMENT does not count", RecordTest::refusedMoment);
        Steps.sentence("the first MOMENT may be any", RecordTest::anyFirstMoment);
        Steps.end();
    }

    private static Steps full() {
        Steps s = new Steps("a");
        for (int number = 1; number <= 60; number++) {
            Steps.due("record " + number, s.q.record(number), number);
        }
        return s;
    }

    private static void oneToSixty() {
        Steps s = full();
        Steps.due("entry of record 1", s.q.entry(1, 0, 5), 1);
        Steps.due("entry of record 60", s.q.entry(60, 0, 5), 1);
        Steps.due("entry of record 0", s.q.entry(0, 0, 5), 0);
        Steps.due("entry of record 61", s.q.entry(61, 0, 5), 0);
        s.saved(0, 0, "a=5");
        s.dueHits("run(0)", s.q.run(0), 60, 1);
    }

    private static void asTheyCome() {
        QuerySteps q = new QuerySteps();
        Steps.due("record(5)", q.record(5), 1);
        Steps.due("record(6)", q.record(6), 2);
        Steps.due("record(5), refused", q.record(5), 0);
        Steps.due("record(6): a refused one takes no number", q.record(6), 3);
    }

    private static void momentsAreLongs() {
        QuerySteps q = new QuerySteps();
        Steps.due("record(least long)", q.record(Long.MIN_VALUE), 1);
        Steps.due("record(-2 to the 32th)", q.record(-(1L << 32)), 2);
        Steps.due("record(0)", q.record(0), 3);
        Steps.due("record(2 to the 31th)", q.record(1L << 31), 4);
        Steps.due("record(2 to the 32th)", q.record(1L << 32), 5);
        Steps.due("record(1)", q.record(1), 0);
        Steps.due("record(greatest long)", q.record(Long.MAX_VALUE), 6);
        Steps.due("record(greatest long less 1)", q.record(Long.MAX_VALUE - 1), 0);
        Steps.due("record(least long)", q.record(Long.MIN_VALUE), 0);
        Steps.due("record(greatest long)", q.record(Long.MAX_VALUE), 7);
    }

    private static void withoutEntries() {
        Steps s = new Steps("a");
        s.saved(0, 0, "a=0..99999");
        s.q.record(3);
        s.q.entry(1, 0, 7);
        Steps.due("record(4)", s.q.record(4), 2);
        s.dueHits("run(0)", s.q.run(0), 1);
        Steps.due("its first entry", s.q.entry(2, 0, 1), 1);
    }

    private static void sixtyAtMost() {
        Steps s = full();
        Steps.due("record 61", s.q.record(61), 0);
        Steps.due("record 61, the greatest MOMENT", s.q.record(Long.MAX_VALUE), 0);
        Steps.due("record 61 again", s.q.record(60), 0);
        s.saved(0, 0, "a=1");
        Steps.due("entry of record 60", s.q.entry(60, 0, 1), 1);
        Steps.due("entry of record 1", s.q.entry(1, 0, 1), 1);
        s.dueHits("run(0): the first and the last are as they were", s.q.run(0), 60, 1);
    }

    private static void belowTheLatest() {
        Steps s = new Steps("a");
        Steps.due("record(-5)", s.q.record(-5), 1);
        Steps.due("record(-6)", s.q.record(-6), 0);
        Steps.due("entry of a record that did not come", s.q.entry(2, 0, 1), 0);
        Steps.due("record(7)", s.q.record(7), 2);
        Steps.due("record(6)", s.q.record(6), 0);
        Steps.due("record(-5)", s.q.record(-5), 0);
    }

    private static void theSameMoment() {
        QuerySteps q = new QuerySteps();
        for (int number = 1; number <= 60; number++) {
            Steps.due("record " + number + " of one MOMENT", q.record(-9), number);
        }
    }

    private static void refusedMoment() {
        QuerySteps q = new QuerySteps();
        Steps.due("record(5)", q.record(5), 1);
        Steps.due("record(3)", q.record(3), 0);
        Steps.due("record(4)", q.record(4), 0);
        Steps.due("record(5)", q.record(5), 2);
    }

    private static void anyFirstMoment() {
        long[] moments = {Long.MIN_VALUE, -1, 0, 1, Long.MAX_VALUE};
        for (long moment : moments) {
            Steps.due("record(" + moment + ")", new QuerySteps().record(moment), 1);
        }
    }
}
