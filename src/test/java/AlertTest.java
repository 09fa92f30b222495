/** Promise 12: alert. */
public final class AlertTest {
    private static final int NONE = QuerySteps.NONE;

    public static void main(String[] args) {
        onlyWhatIsNew();
        runIsNoLook();
        withoutRecords();
        eachQuestionForItself();
        leastMoment();
        nothingHappensIfBroken();
        noneSuch();
        Steps.end();
    }

    private static void add(Steps s, long moment, int value) {
        int number = s.q.record(moment);
        Steps.due("entry of record " + number, s.q.entry(number, 0, value), 1);
    }

    private static Steps twoRecords() {
        Steps s = new Steps("a");
        add(s, 5, 1);
        add(s, 5, 1);
        s.saved(0, 0, "a=1");
        return s;
    }

    private static void onlyWhatIsNew() {
        Steps s = twoRecords();
        s.dueHits("alert, the first time", s.q.alert(0), 1, 2);
        s.dueHits("alert, nothing new", s.q.alert(0));
        add(s, 5, 1);
        s.dueHits("alert, a record of the same MOMENT", s.q.alert(0));
        add(s, 6, 1);
        add(s, 7, 2);
        add(s, 8, 1);
        s.dueHits("alert, three new ones", s.q.alert(0), 6, 4);
        // A record that came before and meets it only now is not new.
        s.q.entry(5, 0, 1);
        s.dueHits("alert, an old record", s.q.alert(0));
        add(s, 9, 2);
        s.dueHits("alert, none that meets", s.q.alert(0));
        add(s, 9, 1);
        s.dueHits("alert, up to the latest record, not the latest hit", s.q.alert(0));
    }

    private static void runIsNoLook() {
        Steps s = twoRecords();
        s.dueHits("run", s.q.run(0), 1, 2);
        s.dueHits("alert after run", s.q.alert(0), 1, 2);
        add(s, 6, 1);
        s.dueHits("run", s.q.run(0), 3, 1, 2);
        s.dueHits("alert after run", s.q.alert(0), 3);
        s.dueHits("run after alert", s.q.run(0), 3, 1, 2);
    }

    private static void withoutRecords() {
        Steps s = new Steps("a");
        s.saved(0, 0, "a=1");
        s.dueHits("alert without records", s.q.alert(0));
        add(s, Long.MIN_VALUE, 1);
        add(s, -3, 1);
        s.dueHits("alert after that", s.q.alert(0), 2, 1);
        s.dueHits("alert again", s.q.alert(0));
    }

    private static void eachQuestionForItself() {
        Steps s = twoRecords();
        s.saved(1, 0, "a=1");
        s.dueHits("alert(0)", s.q.alert(0), 1, 2);
        add(s, 6, 1);
        s.dueHits("alert(1)", s.q.alert(1), 3, 1, 2);
        s.dueHits("alert(0)", s.q.alert(0), 3);
        s.dueHits("alert(1)", s.q.alert(1));
    }

    private static void leastMoment() {
        Steps s = new Steps("a");
        s.saved(0, 0, "a=1");
        add(s, Long.MIN_VALUE, 1);
        s.dueHits("alert", s.q.alert(0), 1);
        add(s, Long.MIN_VALUE, 1);
        s.dueHits("alert, the same MOMENT", s.q.alert(0));
        add(s, Long.MAX_VALUE, 1);
        s.dueHits("alert, a later one", s.q.alert(0), 3);
    }

    private static void nothingHappensIfBroken() {
        Steps s = twoRecords();
        s.dueHits("alert", s.q.alert(0), 1, 2);
        add(s, 6, 1);
        s.dueHits("run", s.q.run(0), 3, 1, 2);
        s.q.on(0, false);
        Steps.due("alert of a BROKEN one", s.q.alert(0), NONE);
        Steps.due("at(2): the hits stay", s.q.at(2), 2);
        s.q.on(0, true);
        s.dueHits("alert, not looked at meanwhile", s.q.alert(0), 3);
    }

    private static void noneSuch() {
        Steps s = twoRecords();
        s.dueHits("run", s.q.run(0), 1, 2);
        int[] none = {-1, 1, 9, 10, Integer.MAX_VALUE, Integer.MIN_VALUE};
        for (int question : none) {
            Steps.due("alert(" + question + ")", s.q.alert(question), NONE);
            Steps.due("at(1): the hits stay", s.q.at(1), 2);
        }
    }
}
