/** Promise 11: run. */
public final class RunTest {
    private static final int NONE = QuerySteps.NONE;

    public static void main(String[] args) {
        whatMeets();
        beginnings();
        joined();
        order();
        noneSuch();
        brokenOnes();
        manyNodes();
        Steps.end();
    }

    private static Steps records(int... values) {
        Steps s = new Steps("a", "b");
        for (int i = 0; i < values.length; i++) {
            s.q.record(i);
            s.q.entry(i + 1, 0, values[i]);
        }
        return s;
    }

    private static void dueRun(Steps s, String text, int... want) {
        s.saved(0, 0, text);
        s.dueHits("run of " + text, s.q.run(0), want);
    }

    private static void whatMeets() {
        Steps s = records(5, 6, 7);
        dueRun(s, "a=6", 2);
        dueRun(s, "b=6");
        dueRun(s, "a=6..7", 3, 2);
        dueRun(s, "a=0..5", 1);
        dueRun(s, "a=0..4");
        dueRun(s, "a=8..99999");
        s.q.entry(3, 0, 5);
        dueRun(s, "a=5", 3, 1);
        s.q.entry(3, 1, 6);
        dueRun(s, "b=6", 3);
        dueRun(s, "a=7 and b=6", 3);
        dueRun(s, "b=5");
    }

    private static void beginnings() {
        Steps s = records(0, 1, 10, 12, 19999, 2, 21, 100);
        dueRun(s, "a=1*", 8, 5, 4, 3, 2);
        dueRun(s, "a=0*", 1);
        dueRun(s, "a=10*", 8, 3);
        dueRun(s, "a=01*", 8, 5, 4, 3, 2);
        dueRun(s, "a=19999*", 5);
        dueRun(s, "a=2*", 7, 6);
        dueRun(s, "a=100*", 8);
        dueRun(s, "a=1000*");
    }

    private static void joined() {
        Steps s = records(1, 2, 3, 4);
        s.q.entry(1, 1, 1);
        s.q.entry(3, 1, 1);
        dueRun(s, "a=1..3 and b=1", 3, 1);
        dueRun(s, "a=4 or b=1", 4, 3, 1);
        dueRun(s, "a=1..3 not b=1", 2);
        dueRun(s, "b=1 not a=1", 3);
        dueRun(s, "a=1 or a=2 not b=1", 2);
        dueRun(s, "a=1 or (a=2 not b=1)", 2, 1);
        dueRun(s, "a=1 not (a=1 not b=2)");
        dueRun(s, "a=0..9 not (b=1 or a=2)", 4);
    }

    private static void order() {
        Steps s = new Steps("a");
        long[] moments = {Long.MIN_VALUE, 3, 3, 7, 7, 7, Long.MAX_VALUE, Long.MAX_VALUE};
        for (int i = 0; i < moments.length; i++) {
            s.q.record(moments[i]);
            s.q.entry(i + 1, 0, i);
        }
        dueRun(s, "a=0..9", 7, 8, 4, 5, 6, 2, 3, 1);
        dueRun(s, "a=0..9 not a=4", 7, 8, 4, 6, 2, 3, 1);
        Steps full = new Steps("a");
        int[] want = new int[60];
        for (int i = 0; i < 60; i++) {
            full.q.record(i);
            full.q.entry(i + 1, 0, 1);
            want[i] = 60 - i;
        }
        dueRun(full, "a=1", want);
    }

    private static void noneSuch() {
        Steps s = records(1);
        dueRun(s, "a=1", 1);
        int[] none = {-1, 1, 9, 10, Integer.MAX_VALUE, Integer.MIN_VALUE};
        for (int question : none) {
            Steps.due("run(" + question + ")", s.q.run(question), NONE);
            Steps.due("at(0): the hits stay", s.q.at(0), 1);
        }
    }

    private static void brokenOnes() {
        Steps s = records(1, 2);
        s.saved(1, 0, "a=1 or b=1");
        dueRun(s, "a=2", 2);
        s.q.on(1, false);
        Steps.due("run(1), which is BROKEN", s.q.run(1), NONE);
        Steps.due("at(0): the hits stay", s.q.at(0), 2);
        s.dueHits("run(0), which is not", s.q.run(0), 2);
        s.q.on(1, true);
        s.dueHits("run(1) again", s.q.run(1), 1);
    }

    private static void manyNodes() {
        Steps s = records(1, 2);
        dueRun(s, Steps.times("a=1 or ", 19) + "a=2", 2, 1);
        dueRun(s, Steps.times("a=1 and ", 19) + "a=2");
        dueRun(s, Steps.times("(a=2 or ", 19) + "a=1" + Steps.times(")", 19), 2, 1);
    }
}
