/** Promise 1: a new object. */
public final class NewObjectTest {
    private static final int NONE = QuerySteps.NONE;

    public static void main(String[] args) {
        Steps.sentence("No indexes", NewObjectTest::noIndexes);
        Steps.sentence("no records", NewObjectTest::noRecords);
        Steps.sentence("nothing collected", NewObjectTest::nothingCollected);
        Steps.sentence("no tree", NewObjectTest::noTree);
        Steps.sentence("no saved questions", NewObjectTest::noQuestions);
        Steps.sentence("nothing was UNKNOWN, as no text was read", NewObjectTest::nothingUnknown);
        Steps.sentence("no hits, as nothing was run", NewObjectTest::noHits);
        Steps.sentence("each object is new, whatever another one holds", NewObjectTest::objectsShareNothing);
        Steps.sentence("The constants: NONE = -1", () -> Steps.due("NONE", QuerySteps.NONE, -1));
        Steps.end();
    }

    private static void noIndexes() {
        Steps s = new Steps();
        for (int i = -1; i <= 8; i++) {
            Steps.due("on(" + i + ", true)", s.q.on(i, true), false);
            Steps.due("on(" + i + ", true) again", s.q.on(i, true), false);
        }
        s.dueUnknown(0, "a=1", 0, NONE);
        s.dueUnknown(1, "a 1", 0, NONE);
        Steps.due("record(1)", s.q.record(1), 1);
        Steps.due("entry(1, 0, 0)", s.q.entry(1, 0, 0), 0);
        Steps.due("index of the first", s.index("a"), 0);
    }

    private static void noRecords() {
        Steps s = new Steps("a");
        for (int i = -1; i <= 61; i++) {
            Steps.due("entry(" + i + ", 0, 0)", s.q.entry(i, 0, 0), 0);
        }
        s.saved(0, 0, "a=0..99999");
        s.dueHits("run(0)", s.q.run(0));
        Steps.due("record(the least long)", s.q.record(Long.MIN_VALUE), 1);
    }

    private static void nothingCollected() {
        Steps.due("index()", new QuerySteps().index(), NONE);
        Steps.due("read(0)", new QuerySteps().read(0), -1);
        Steps.due("read(1)", new QuerySteps().read(1), -1);
    }

    private static void noTree() {
        QuerySteps q = new QuerySteps();
        for (int what = -1; what <= 4; what++) {
            Steps.due("node(0, " + what + ")", q.node(0, what), NONE);
        }
        for (int i = 0; i < 10; i++) {
            Steps.due("save(" + i + ")", q.save(i), 0);
        }
    }

    private static void noQuestions() {
        QuerySteps q = new QuerySteps();
        for (int i = 0; i < 10; i++) {
            Steps.due("run(" + i + ")", q.run(i), NONE);
            Steps.due("alert(" + i + ")", q.alert(i), NONE);
            Steps.due("same(" + i + ", " + i + ")", q.same(i, i), false);
        }
        Steps.due("broken()", q.broken(), 0);
    }

    private static void nothingUnknown() {
        Steps s = new Steps("a");
        Steps.due("near()", s.q.near(), NONE);
    }

    private static void noHits() {
        QuerySteps q = new QuerySteps();
        for (int i = 0; i < 60; i++) {
            Steps.due("at(" + i + ")", q.at(i), 0);
        }
    }

    private static void objectsShareNothing() {
        Steps a = new Steps("title");
        a.saved(0, 0, "title=1");
        a.q.record(5);
        a.q.entry(1, 0, 1);
        a.dueHits("run(0)", a.q.run(0), 1);
        a.collect("title");
        Steps b = new Steps();
        b.dueUnknown(0, "title=1", 0, NONE);
        Steps.due("node(0, 0) of another object", b.q.node(0, 0), NONE);
        Steps.due("save(0) of another object", b.q.save(0), 0);
        Steps.due("run(0) of another object", b.q.run(0), NONE);
        Steps.due("at(0) of another object", b.q.at(0), 0);
        Steps.due("record(1) of another object", b.q.record(1), 1);
        a.dueRead(0, "=2", 1);
    }
}
