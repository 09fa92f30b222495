/** Promise 10: save, and the SAVED questions of the terms. */
public final class SaveTest {
    private static final int NONE = QuerySteps.NONE;

    public static void main(String[] args) {
        Steps.sentence("SAVED questions are 0 .. 9, each a tree", SaveTest::zeroToNine);
        Steps.sentence("THE TREE is saved: 1", SaveTest::theTree);
        Steps.sentence("THE TREE is saved as it is: what is read later is another one", SaveTest::savedOnesStay);
        Steps.sentence("THE TREE is still there when it is saved", SaveTest::theTreeStays);
        Steps.sentence("in place of what it was", SaveTest::inPlace);
        Steps.sentence("in place of what it was: a smaller one in place of a larger one", SaveTest::smallerInPlace);
        Steps.sentence("not looked at yet", SaveTest::notLookedAt);
        Steps.sentence("not looked at yet, if it is the same tree, too", SaveTest::notLookedAtAgain);
        Steps.sentence("0 if there is none", SaveTest::noTree);
        Steps.sentence("0 if there is no such number", SaveTest::noNumber);
        Steps.sentence("a refused one changes no question", SaveTest::refused);
        Steps.sentence("a tree of an index that is off is saved, too", SaveTest::broken);
        Steps.end();
    }

    /** Record i has the value i of index a. */
    private static Steps threeRecords() {
        Steps s = new Steps("a");
        for (int i = 1; i <= 3; i++) {
            s.q.record(i);
            s.q.entry(i, 0, i);
        }
        return s;
    }

    private static void zeroToNine() {
        Steps s = new Steps("a");
        for (int question = 0; question < 10; question++) {
            s.dueRead(0, "a=" + question, 1);
            Steps.due("save(" + question + ")", s.q.save(question), 1);
        }
        for (int question = 0; question < 10; question++) {
            s.q.record(question);
            s.q.entry(question + 1, 0, question);
        }
        for (int question = 0; question < 10; question++) {
            s.dueHits("run(" + question + ")", s.q.run(question), question + 1);
        }
    }

    private static void theTree() {
        Steps s = threeRecords();
        s.dueRead(0, "a=2 or a=3", 3);
        Steps.due("save(4)", s.q.save(4), 1);
        s.dueHits("run(4)", s.q.run(4), 3, 2);
        Steps.due("run(5), not saved", s.q.run(5), NONE);
        Steps.due("run(3), not saved", s.q.run(3), NONE);
    }

    private static void savedOnesStay() {
        Steps s = threeRecords();
        s.saved(0, 0, "a=1");
        s.dueRead(0, "a=2 or a=3", 3);
        s.dueHits("run(0)", s.q.run(0), 1);
        s.dueWrong(0, "a=3 and", 7);
        s.dueHits("run(0)", s.q.run(0), 1);
    }

    private static void theTreeStays() {
        Steps s = threeRecords();
        s.dueRead(0, "a=2", 1);
        Steps.due("save(0)", s.q.save(0), 1);
        s.dueNodes("a=2", 0, 0, 2, NONE);
        Steps.due("save(9)", s.q.save(9), 1);
        s.dueWrong(0, "a", 1);
        Steps.due("save(4) of the tree that stays", s.q.save(4), 1);
        s.dueHits("run(4)", s.q.run(4), 2);
    }

    private static void inPlace() {
        Steps s = threeRecords();
        s.saved(5, 0, "a=1");
        s.saved(5, 0, "a=2 or a=3");
        s.dueHits("run(5)", s.q.run(5), 3, 2);
        s.saved(6, 0, "a=2 or a=3");
        Steps.due("same(5, 6)", s.q.same(5, 6), true);
    }

    private static void smallerInPlace() {
        Steps s = threeRecords();
        s.saved(5, 0, Steps.times("a=1 or ", 19) + "a=2");
        s.saved(5, 0, "a=3");
        s.dueHits("run(5)", s.q.run(5), 3);
        s.saved(6, 0, "a=3");
        Steps.due("same(5, 6)", s.q.same(5, 6), true);
    }

    private static void notLookedAt() {
        Steps s = threeRecords();
        s.saved(5, 0, "a=1");
        s.dueHits("alert(5)", s.q.alert(5), 1);
        s.dueHits("alert(5) again", s.q.alert(5));
        s.saved(5, 0, "a=1 or a=2");
        s.dueHits("alert(5) of the new one", s.q.alert(5), 2, 1);
    }

    private static void notLookedAtAgain() {
        Steps s = threeRecords();
        s.saved(5, 0, "a=1");
        s.saved(6, 0, "a=1");
        s.dueHits("alert(5)", s.q.alert(5), 1);
        s.dueHits("alert(6)", s.q.alert(6), 1);
        Steps.due("save(5) of the same tree", s.q.save(5), 1);
        s.dueHits("alert(5), not looked at yet", s.q.alert(5), 1);
        s.dueHits("alert(6), which was", s.q.alert(6));
    }

    private static void noTree() {
        Steps s = new Steps("a");
        Steps.due("save(0) without a tree", s.q.save(0), 0);
        s.dueWrong(0, "a=", 2);
        Steps.due("save(0) after a WRONG text", s.q.save(0), 0);
        Steps.due("run(0)", s.q.run(0), NONE);
        Steps.due("same(0, 0)", s.q.same(0, 0), false);
    }

    private static void noNumber() {
        Steps s = threeRecords();
        s.dueRead(0, "a=1", 1);
        int[] none = {-1, 10, 11, 256, Integer.MAX_VALUE, Integer.MIN_VALUE};
        for (int question : none) {
            Steps.due("save(" + question + ")", s.q.save(question), 0);
            Steps.due("run(" + question + ")", s.q.run(question), NONE);
        }
        for (int question = 0; question < 10; question++) {
            Steps.due("run(" + question + "), not saved", s.q.run(question), NONE);
        }
    }

    private static void refused() {
        Steps s = threeRecords();
        s.saved(9, 0, "a=1");
        s.saved(0, 0, "a=2");
        s.dueHits("alert(9)", s.q.alert(9), 1);
        s.dueRead(0, "a=3", 1);
        Steps.due("save(10)", s.q.save(10), 0);
        Steps.due("save(-1)", s.q.save(-1), 0);
        s.dueHits("alert(9), which was looked at", s.q.alert(9));
        s.dueHits("run(9)", s.q.run(9), 1);
        s.dueHits("run(0)", s.q.run(0), 2);
    }

    private static void broken() {
        Steps s = threeRecords();
        s.dueRead(0, "a=1", 1);
        s.q.on(0, false);
        Steps.due("save(0)", s.q.save(0), 1);
        Steps.due("broken()", s.q.broken(), 1);
        s.q.on(0, true);
        s.dueHits("run(0)", s.q.run(0), 1);
    }
}
