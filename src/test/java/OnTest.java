/** Promise 4: on. */
public final class OnTest {
    public static void main(String[] args) {
        Steps.sentence("An index is on, or off: what it was", OnTest::whatItWas);
        Steps.sentence("each index for itself", OnTest::eachForItself);
        Steps.sentence("the first and the last of eight", OnTest::firstAndLast);
        Steps.sentence("false if there is none such", OnTest::noneSuch);
        Steps.sentence("none such: none that comes later is on or off by it", OnTest::noneSuchYet);
        Steps.sentence("an index that is off is an index still", OnTest::offIsStillAnIndex);
        Steps.end();
    }

    private static void whatItWas() {
        Steps s = new Steps("a");
        Steps.due("on(0, true) of a new one", s.q.on(0, true), true);
        Steps.due("on(0, false)", s.q.on(0, false), true);
        Steps.due("on(0, false) again", s.q.on(0, false), false);
        Steps.due("on(0, true)", s.q.on(0, true), false);
        Steps.due("on(0, true) again", s.q.on(0, true), true);
    }

    private static void eachForItself() {
        Steps s = new Steps("a", "b", "c");
        s.q.on(1, false);
        Steps.due("on(0, true)", s.q.on(0, true), true);
        Steps.due("on(2, true)", s.q.on(2, true), true);
        Steps.due("on(1, true)", s.q.on(1, true), false);
    }

    private static void firstAndLast() {
        Steps s = new Steps("a", "b", "c", "d", "e", "f", "g", "h");
        Steps.due("on(0, false)", s.q.on(0, false), true);
        Steps.due("on(7, false)", s.q.on(7, false), true);
        Steps.due("on(0, true)", s.q.on(0, true), false);
        Steps.due("on(7, true)", s.q.on(7, true), false);
        Steps.due("on(8, true)", s.q.on(8, true), false);
        Steps.due("on(8, true) again", s.q.on(8, true), false);
    }

    private static void noneSuch() {
        Steps s = new Steps("a", "b");
        int[] none = {-1, 2, 7, 8, Integer.MAX_VALUE, Integer.MIN_VALUE};
        for (int index : none) {
            Steps.due("on(" + index + ", true)", s.q.on(index, true), false);
            Steps.due("on(" + index + ", true) again", s.q.on(index, true), false);
            Steps.due("on(" + index + ", false)", s.q.on(index, false), false);
        }
        Steps.due("on(0, true): it stays on", s.q.on(0, true), true);
        Steps.due("on(1, true): it stays on", s.q.on(1, true), true);
    }

    private static void noneSuchYet() {
        Steps s = new Steps("a");
        Steps.due("on(1, false)", s.q.on(1, false), false);
        Steps.due("index of b", s.index("b"), 1);
        Steps.due("on(1, true): a new one is on", s.q.on(1, true), true);
    }

    private static void offIsStillAnIndex() {
        Steps s = new Steps("a", "bbbb");
        s.q.on(0, false);
        s.dueRead(0, "a=1", 1);
        Steps.due("save(0)", s.q.save(0), 1);
        Steps.due("record", s.q.record(1), 1);
        Steps.due("entry of an index that is off", s.q.entry(1, 0, 1), 1);
        s.dueUnknown(0, "aa=1", 0, 0);
        s.q.on(0, true);
        s.dueHits("run(0)", s.q.run(0), 1);
    }
}
