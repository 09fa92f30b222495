/** Promise 10: save. */
public final class SaveTest {
    public static void main(String[] args) {
        Steps s = new Steps("a");
        Steps.due("save(0) without a tree", s.q.save(0), 0);
        s.dueWrong(0, "a=", 2);
        Steps.due("save(0) after a WRONG text", s.q.save(0), 0);
        s.dueRead(0, "a=1", 1);
        int[] none = {-1, 10, Integer.MAX_VALUE, Integer.MIN_VALUE};
        for (int question : none) {
            Steps.due("save(" + question + ")", s.q.save(question), 0);
        }
        for (int question = 0; question < 10; question++) {
            Steps.due("save(" + question + ")", s.q.save(question), 1);
        }
        s.q.record(1);
        s.q.entry(1, 0, 1);
        s.q.record(2);
        s.q.entry(2, 0, 2);
        savedOnesStay(s);
        inPlaceOfWhatItWas(s);
        Steps.end();
    }

    private static void savedOnesStay(Steps s) {
        s.dueRead(0, "a=2", 1);
        s.dueHits("run(3)", s.q.run(3), 1);
        s.dueWrong(0, "a", 1);
        Steps.due("save(4) of the tree that stays", s.q.save(4), 1);
        s.dueHits("run(4)", s.q.run(4), 2);
    }

    private static void inPlaceOfWhatItWas(Steps s) {
        s.dueHits("alert(5)", s.q.alert(5), 1);
        s.dueHits("alert(5) again", s.q.alert(5));
        s.saved(5, 0, "a=1 or a=2");
        s.dueHits("alert(5) of the new one", s.q.alert(5), 2, 1);
        Steps.due("save(5) of the same tree", s.q.save(5), 1);
        s.dueHits("alert(5), not looked at yet", s.q.alert(5), 2, 1);
    }
}
