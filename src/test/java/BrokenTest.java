/** Promise 15: broken, and what is BROKEN by the terms. */
public final class BrokenTest {
    private static final int NONE = QuerySteps.NONE;

    public static void main(String[] args) {
        Steps.sentence("How many saved questions are BROKEN: no questions", BrokenTest::noQuestions);
        Steps.sentence("How many saved questions are BROKEN: none of them", BrokenTest::noneOfThem);
        Steps.sentence("How many saved questions are BROKEN: all ten", BrokenTest::allTen);
        Steps.sentence("How many: each counts once", BrokenTest::eachOnce);
        Steps.sentence("saved questions: THE TREE that is not saved is none", BrokenTest::onlySaved);
        Steps.sentence("BROKEN while one of its indexes is switched off: each of them", BrokenTest::eachIndex);
        Steps.sentence("one of its indexes: not another one", BrokenTest::anotherIndex);
        Steps.sentence("one of its indexes: of a LEAF, a RANGE, BEGINS", BrokenTest::eachSort);
        Steps.sentence("one of its indexes: the last of the most nodes", BrokenTest::lastNode);
        Steps.sentence("one of its indexes: the last of eight", BrokenTest::lastIndex);
        Steps.sentence("while: not any more when it is on again", BrokenTest::whileOff);
        Steps.sentence("while: from the start if it is saved when one is off", BrokenTest::savedWhileOff);
        Steps.sentence("another tree in its place is not BROKEN by the indexes of what it was", BrokenTest::inPlace);
        Steps.end();
    }

    private static void noQuestions() {
        Steps s = new Steps("a");
        Steps.due("broken()", s.q.broken(), 0);
        s.q.on(0, false);
        Steps.due("broken(), one off", s.q.broken(), 0);
    }

    private static void noneOfThem() {
        Steps s = new Steps("a", "b");
        s.saved(0, 0, "a=1");
        s.saved(9, 0, "b=1 or a=1");
        Steps.due("broken()", s.q.broken(), 0);
    }

    private static void allTen() {
        Steps s = new Steps("a");
        for (int i = 0; i < 10; i++) {
            s.saved(i, 1, "a 1");
        }
        s.q.on(0, false);
        Steps.due("broken()", s.q.broken(), 10);
    }

    private static void eachOnce() {
        Steps s = new Steps("a", "b");
        s.saved(0, 0, "a=1 or b=1 and a=2 not b=4*");
        s.saved(1, 0, "b=1");
        s.q.on(0, false);
        Steps.due("broken(), a off", s.q.broken(), 1);
        s.q.on(1, false);
        Steps.due("broken(), both off", s.q.broken(), 2);
    }

    private static void onlySaved() {
        Steps s = new Steps("a");
        s.dueRead(0, "a=1", 1);
        s.q.on(0, false);
        Steps.due("broken()", s.q.broken(), 0);
        s.q.save(10);
        Steps.due("broken() after a refused save", s.q.broken(), 0);
    }

    private static void eachIndex() {
        Steps s = new Steps("a", "b", "c");
        s.saved(3, 0, "a=1 or b=1..2 and c=1*");
        for (int index = 0; index < 3; index++) {
            s.q.on(index, false);
            Steps.due("broken() with " + index + " off", s.q.broken(), 1);
            Steps.due("run(3) with " + index + " off", s.q.run(3), NONE);
            s.q.on(index, true);
            Steps.due("broken() with " + index + " on", s.q.broken(), 0);
        }
    }

    private static void anotherIndex() {
        Steps s = new Steps("a", "b", "c");
        s.saved(0, 0, "a=1 or c=1");
        s.q.on(1, false);
        Steps.due("broken()", s.q.broken(), 0);
        Steps.due("run(0)", s.q.run(0), 0);
    }

    private static void eachSort() {
        String[] terms = {"b=1", "b=1..2", "b=1*"};
        for (String term : terms) {
            Steps s = new Steps("a", "b");
            s.saved(0, 0, term);
            s.saved(1, 0, term + " not a=1");
            s.saved(2, 0, "a=1 not " + term);
            s.q.on(1, false);
            Steps.due("broken() of " + term, s.q.broken(), 3);
        }
    }

    private static void lastNode() {
        Steps s = new Steps("a", "b");
        s.saved(0, 0, Steps.times("a=1 or ", 19) + "b=1");
        s.saved(1, 0, Steps.times("a=1 or ", 19) + "a=1");
        s.q.on(1, false);
        Steps.due("broken()", s.q.broken(), 1);
        Steps.due("run(0)", s.q.run(0), NONE);
        Steps.due("run(1)", s.q.run(1), 0);
    }

    private static void lastIndex() {
        Steps s = new Steps("a", "b", "c", "d", "e", "f", "g", "h");
        s.saved(0, 0, "h=1");
        s.saved(1, 0, "a=1");
        s.q.on(7, false);
        Steps.due("broken(), h off", s.q.broken(), 1);
        s.q.on(7, true);
        s.q.on(0, false);
        Steps.due("broken(), a off", s.q.broken(), 1);
    }

    private static void whileOff() {
        Steps s = new Steps("a", "b");
        s.saved(0, 0, "a=1 and b=1");
        s.q.on(0, false);
        s.q.on(0, false);
        s.q.on(1, false);
        Steps.due("broken(), both off", s.q.broken(), 1);
        s.q.on(0, true);
        Steps.due("broken(), one still off", s.q.broken(), 1);
        s.q.on(1, true);
        Steps.due("broken(), both on", s.q.broken(), 0);
    }

    private static void savedWhileOff() {
        Steps s = new Steps("a");
        s.q.on(0, false);
        s.saved(0, 0, "a=1");
        Steps.due("broken()", s.q.broken(), 1);
        s.q.on(0, true);
        Steps.due("broken(), on again", s.q.broken(), 0);
    }

    private static void inPlace() {
        Steps s = new Steps("a", "b");
        s.saved(0, 0, "a=1 or b=1");
        s.q.on(0, false);
        Steps.due("broken()", s.q.broken(), 1);
        s.saved(0, 0, "b=1");
        Steps.due("broken() with another in its place", s.q.broken(), 0);
    }
}
