/** An object is used for at most 512 calls: all of them count. */
public final class LastCallTest {
    public static void main(String[] args) {
        Steps.sentence("at most 512 calls: texts are read to the last", LastCallTest::texts);
        Steps.sentence("at most 512 calls: records come to the last", LastCallTest::records);
        Steps.sentence("at most 512 calls: questions are saved and run to the last", LastCallTest::questions);
        Steps.end();
    }

    private static void texts() {
        Steps s = new Steps("a");
        // 2 calls so far, 127 rounds of 4 calls, then two more.
        for (int i = 0; i < 127; i++) {
            s.dueRead(0, "a=" + i % 10, 1);
        }
        Steps.due("node(0, 2), call 511", s.q.node(0, 2), 6);
        Steps.due("node(0, 0), call 512", s.q.node(0, 0), 0);
        Steps.due("calls", s.q.count(), Calls.MOST);
    }

    private static void records() {
        Steps s = new Steps("a");
        // 2 calls so far, 60 rounds of 8 calls are 480, then 30 more.
        for (int i = 1; i <= 60; i++) {
            Steps.due("record " + i, s.q.record(i), i);
            for (int entry = 1; entry <= 7; entry++) {
                Steps.due("entry " + entry, s.q.entry(i, 0, entry), entry);
            }
        }
        for (int i = 31; i <= 60; i++) {
            Steps.due("entry 8 of record " + i, s.q.entry(i, 0, 8), 8);
        }
        Steps.due("calls", s.q.count(), Calls.MOST);
    }

    private static void questions() {
        Steps s = new Steps("a");
        s.q.record(1);
        s.q.entry(1, 0, 5);
        s.dueRead(0, "a=5", 1);
        // 8 calls so far, 126 rounds of 4 calls are 504.
        for (int i = 0; i < 126; i++) {
            Steps.due("save", s.q.save(i % 10), 1);
            Steps.due("alert", s.q.alert(i % 10), 1);
            Steps.due("run", s.q.run(i % 10), 1);
            Steps.due("at(0)", s.q.at(0), 1);
        }
        Steps.due("calls", s.q.count(), Calls.MOST);
    }
}
