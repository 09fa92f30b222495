/** Promise 1: a new object holds nothing. */
public final class NewObjectTest {
    public static void main(String[] args) {
        QuerySteps q = new QuerySteps();
        Steps.due("near()", q.near(), QuerySteps.NONE);
        Steps.due("node(0, 0)", q.node(0, 0), QuerySteps.NONE);
        Steps.due("at(0)", q.at(0), 0);
        Steps.due("broken()", q.broken(), 0);
        for (int i = 0; i < 10; i++) {
            Steps.due("save(" + i + ")", q.save(i), 0);
            Steps.due("run(" + i + ")", q.run(i), QuerySteps.NONE);
            Steps.due("alert(" + i + ")", q.alert(i), QuerySteps.NONE);
            Steps.due("same(" + i + ", " + i + ")", q.same(i, i), false);
        }
        for (int i = 0; i < 8; i++) {
            Steps.due("on(" + i + ", true)", q.on(i, true), false);
        }
        Steps.due("entry(1, 0, 0)", q.entry(1, 0, 0), 0);
        Steps.due("index()", q.index(), QuerySteps.NONE);
        Steps.due("read(0)", q.read(0), -1);
        Steps.due("read(1)", q.read(1), -1);
        objectsShareNothing();
        Steps.end();
    }

    private static void objectsShareNothing() {
        Steps a = new Steps("title");
        a.saved(0, 0, "title=1");
        a.q.record(5);
        a.q.entry(1, 0, 1);
        a.dueHits("run(0)", a.q.run(0), 1);
        Steps b = new Steps();
        b.dueUnknown(0, "title=1", 0, QuerySteps.NONE);
        Steps.due("save(0) of another object", b.q.save(0), 0);
        Steps.due("record(1) of another object", b.q.record(1), 1);
    }
}
