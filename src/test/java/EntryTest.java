/** Promise 9: entry. */
public final class EntryTest {
    private static final int[] FAR = {Integer.MAX_VALUE, Integer.MIN_VALUE};

    public static void main(String[] args) {
        Steps.sentence("A record has an entry more: how many", EntryTest::howMany);
        Steps.sentence("each record for itself", EntryTest::eachForItself);
        Steps.sentence("0 if there is no such record", EntryTest::noRecord);
        Steps.sentence("0 if there is no such index", EntryTest::noIndex);
        Steps.sentence("0 if there is no such value: below 0", EntryTest::valueTooSmall);
        Steps.sentence("0 if there is no such value: above 99999", EntryTest::valueTooLarge);
        Steps.sentence("0 if it has 8", EntryTest::eightAtMost);
        Steps.sentence("a refused one is no entry", EntryTest::refusedIsNone);
        Steps.sentence("the same entry counts again", EntryTest::theSameAgain);
        Steps.sentence("any record, not only the latest", EntryTest::anyRecord);
        Steps.end();
    }

    private static Steps twoRecords() {
        Steps s = new Steps("a", "b");
        s.q.record(1);
        s.q.record(1);
        return s;
    }

    private static void dueRun(Steps s, String text, int... want) {
        s.saved(0, 0, text);
        s.dueHits("run of " + text, s.q.run(0), want);
    }

    private static void howMany() {
        Steps s = twoRecords();
        for (int i = 1; i <= 8; i++) {
            Steps.due("entry " + i, s.q.entry(1, i % 2, i), i);
        }
        for (int i = 1; i <= 8; i++) {
            dueRun(s, (i % 2 == 0 ? "a=" : "b=") + i, 1);
        }
    }

    private static void eachForItself() {
        Steps s = twoRecords();
        Steps.due("entry of 1", s.q.entry(1, 0, 1), 1);
        Steps.due("entry of 2", s.q.entry(2, 0, 2), 1);
        Steps.due("entry of 1", s.q.entry(1, 0, 3), 2);
        dueRun(s, "a=1", 1);
        dueRun(s, "a=2", 2);
        dueRun(s, "a=3", 1);
    }

    private static void noRecord() {
        Steps s = twoRecords();
        int[] none = {0, 3, -1, 60, 61};
        for (int record : none) {
            Steps.due("entry(" + record + ", 0, 1)", s.q.entry(record, 0, 1), 0);
        }
        for (int record : FAR) {
            Steps.due("entry(" + record + ", 0, 1)", s.q.entry(record, 0, 1), 0);
        }
        s.q.record(1);
        dueRun(s, "a=1");
    }

    private static void noIndex() {
        Steps s = twoRecords();
        int[] none = {-1, 2, 7, 8};
        for (int index : none) {
            Steps.due("entry(1, " + index + ", 1)", s.q.entry(1, index, 1), 0);
        }
        for (int index : FAR) {
            Steps.due("entry(1, " + index + ", 1)", s.q.entry(1, index, 1), 0);
        }
        Steps.due("index of c", s.index("c"), 2);
        dueRun(s, "c=1");
        Steps.due("entry of it now", s.q.entry(1, 2, 1), 1);
        dueRun(s, "c=1", 1);
    }

    private static void valueTooSmall() {
        Steps s = twoRecords();
        Steps.due("entry(1, 0, -1)", s.q.entry(1, 0, -1), 0);
        Steps.due("entry(1, 0, least int)", s.q.entry(1, 0, Integer.MIN_VALUE), 0);
        Steps.due("entry(1, 0, 0)", s.q.entry(1, 0, 0), 1);
        dueRun(s, "a=0", 1);
    }

    private static void valueTooLarge() {
        Steps s = twoRecords();
        Steps.due("entry(1, 0, 100000)", s.q.entry(1, 0, 100000), 0);
        Steps.due("entry(1, 0, greatest int)", s.q.entry(1, 0, Integer.MAX_VALUE), 0);
        Steps.due("entry(1, 0, 99999)", s.q.entry(1, 0, 99999), 1);
        dueRun(s, "a=99999", 1);
    }

    private static void eightAtMost() {
        Steps s = twoRecords();
        for (int i = 1; i <= 8; i++) {
            s.q.entry(1, 0, i);
        }
        Steps.due("entry 9", s.q.entry(1, 0, 9), 0);
        Steps.due("entry 9 again", s.q.entry(1, 1, 9), 0);
        dueRun(s, "a=9");
        dueRun(s, "a=8", 1);
        dueRun(s, "a=1", 1);
        Steps.due("entry 1 of the next record", s.q.entry(2, 0, 9), 1);
        dueRun(s, "a=9", 2);
        dueLastRecordFull();
    }

    private static void dueLastRecordFull() {
        Steps s = new Steps("a");
        for (int i = 0; i < 60; i++) {
            s.q.record(i);
        }
        for (int i = 1; i <= 8; i++) {
            Steps.due("entry " + i + " of record 60", s.q.entry(60, 0, i), i);
        }
        Steps.due("entry 9 of record 60", s.q.entry(60, 0, 9), 0);
        dueRun(s, "a=8", 60);
    }

    private static void refusedIsNone() {
        Steps s = twoRecords();
        s.q.entry(1, 0, -1);
        s.q.entry(1, 2, 1);
        s.q.entry(1, 0, 100000);
        Steps.due("entry, the first that counts", s.q.entry(1, 1, 1), 1);
        dueRun(s, "a=0..99999");
        dueRun(s, "b=0..99999", 1);
    }

    private static void theSameAgain() {
        Steps s = twoRecords();
        for (int i = 1; i <= 8; i++) {
            Steps.due("entry " + i + ", the same", s.q.entry(1, 0, 5), i);
        }
        Steps.due("entry 9, the same", s.q.entry(1, 0, 5), 0);
        dueRun(s, "a=5", 1);
    }

    private static void anyRecord() {
        Steps s = twoRecords();
        s.q.record(9);
        Steps.due("entry of record 1", s.q.entry(1, 0, 5), 1);
        dueRun(s, "a=5", 1);
        Steps.due("entry of record 2", s.q.entry(2, 0, 5), 1);
        dueRun(s, "a=5", 1, 2);
    }
}
