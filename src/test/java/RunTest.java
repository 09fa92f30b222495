/** Promise 11: run. Which records meet a tree is tested in MeetsTest. */
public final class RunTest {
    private static final int NONE = QuerySteps.NONE;

    public static void main(String[] args) {
        Steps.sentence("how many records meet it", RunTest::howMany);
        Steps.sentence("how many records meet it: none", RunTest::none);
        Steps.sentence("how many records meet it: all 60", RunTest::allSixty);
        Steps.sentence("how many records meet it: there are no records", RunTest::noRecords);
        Steps.sentence("they are THE HITS, in place of those before", RunTest::inPlaceOfThoseBefore);
        Steps.sentence("by MOMENT, the latest first", RunTest::latestFirst);
        Steps.sentence("by MOMENT: the least and the greatest long", RunTest::farMoments);
        Steps.sentence("then by number", RunTest::thenByNumber);
        Steps.sentence("all records, whatever was looked at", RunTest::allRecords);
        Steps.sentence("NONE, and the hits stay, if there is none such", RunTest::noneSuch);
        Steps.sentence("NONE, and the hits stay, if it is BROKEN", RunTest::broken);
        Steps.sentence("BROKEN: while one of its indexes is off, not longer", RunTest::brokenNoLonger);
        Steps.sentence("the records as they are now", RunTest::asTheyAreNow);
        Steps.end();
    }

    /** Records with the value 1 of index a at these MOMENTS. */
    private static Steps at(long... moments) {
        Steps s = new Steps("a", "b");
        s.saved(0, 0, "a=1");
        s.saved(1, 0, "a=2");
        s.saved(2, 0, "a=1 or b=1");
        for (int i = 0; i < moments.length; i++) {
            s.q.record(moments[i]);
            s.q.entry(i + 1, 0, 1);
        }
        return s;
    }

    private static void howMany() {
        Steps s = at(1, 2);
        Steps.due("run(0)", s.q.run(0), 2);
        s.q.record(3);
        Steps.due("run(0), one more that does not meet it", s.q.run(0), 2);
        s.q.entry(3, 0, 1);
        Steps.due("run(0), now it does", s.q.run(0), 3);
        s.q.entry(3, 0, 1);
        Steps.due("run(0), a record counts once", s.q.run(0), 3);
    }

    private static void none() {
        Steps s = at(1, 2);
        Steps.due("run(0)", s.q.run(0), 2);
        s.dueHits("run(1)", s.q.run(1));
        Steps.due("at(1)", s.q.at(1), 0);
    }

    private static void allSixty() {
        long[] moments = new long[60];
        int[] want = new int[60];
        for (int i = 0; i < 60; i++) {
            moments[i] = i;
            want[i] = 60 - i;
        }
        Steps s = at(moments);
        s.dueHits("run(0)", s.q.run(0), want);
        s.dueHits("run(0) again", s.q.run(0), want);
    }

    private static void noRecords() {
        Steps s = at();
        s.dueHits("run(0)", s.q.run(0));
    }

    private static void inPlaceOfThoseBefore() {
        Steps s = at(1, 2, 3);
        s.q.entry(2, 0, 2);
        s.dueHits("run(0)", s.q.run(0), 3, 2, 1);
        s.dueHits("run(1)", s.q.run(1), 2);
        Steps.due("at(2)", s.q.at(2), 0);
    }

    private static void latestFirst() {
        Steps s = at(-7, -3, 0, 4, 1L << 40);
        s.dueHits("run(0)", s.q.run(0), 5, 4, 3, 2, 1);
    }

    private static void farMoments() {
        Steps s = at(Long.MIN_VALUE, -1, 0, Long.MAX_VALUE);
        s.dueHits("run(0)", s.q.run(0), 4, 3, 2, 1);
    }

    private static void thenByNumber() {
        Steps s = at(3, 3, 7, 7, 7, 9);
        s.dueHits("run(0)", s.q.run(0), 6, 3, 4, 5, 1, 2);
        Steps far = at(Long.MIN_VALUE, Long.MIN_VALUE, Long.MAX_VALUE, Long.MAX_VALUE);
        far.dueHits("run(0)", far.q.run(0), 3, 4, 1, 2);
        long[] sixty = new long[60];
        int[] want = new int[60];
        for (int i = 0; i < 60; i++) {
            want[i] = i + 1;
        }
        Steps one = at(sixty);
        one.dueHits("run(0) of one MOMENT", one.q.run(0), want);
    }

    private static void allRecords() {
        Steps s = at(1, 2);
        s.dueHits("alert(0)", s.q.alert(0), 2, 1);
        s.dueHits("alert(0) again", s.q.alert(0));
        s.dueHits("run(0)", s.q.run(0), 2, 1);
        s.dueHits("run(0) again", s.q.run(0), 2, 1);
    }

    private static void noneSuch() {
        Steps s = at(1, 2);
        s.dueHits("run(0)", s.q.run(0), 2, 1);
        int[] none = {-1, 3, 9, 10, 256, Integer.MAX_VALUE, Integer.MIN_VALUE};
        for (int question : none) {
            Steps.due("run(" + question + ")", s.q.run(question), NONE);
            Steps.due("at(0): the hits stay", s.q.at(0), 2);
            Steps.due("at(1): the hits stay", s.q.at(1), 1);
            Steps.due("at(2): the hits stay", s.q.at(2), 0);
        }
    }

    private static void broken() {
        Steps s = at(1, 2);
        s.dueHits("run(0)", s.q.run(0), 2, 1);
        s.q.on(1, false);
        Steps.due("run(2), which is BROKEN", s.q.run(2), NONE);
        Steps.due("at(1): the hits stay", s.q.at(1), 1);
        s.dueHits("run(1), which is not", s.q.run(1));
        Steps.due("run(2), which is BROKEN", s.q.run(2), NONE);
        Steps.due("at(0): no hits stay no hits", s.q.at(0), 0);
    }

    private static void brokenNoLonger() {
        Steps s = at(1, 2);
        s.q.on(1, false);
        s.q.on(0, false);
        Steps.due("run(2)", s.q.run(2), NONE);
        s.q.on(1, true);
        Steps.due("run(2), one still off", s.q.run(2), NONE);
        s.q.on(0, true);
        s.dueHits("run(2), both on", s.q.run(2), 2, 1);
    }

    private static void asTheyAreNow() {
        Steps s = at(1);
        s.dueHits("run(1)", s.q.run(1));
        s.q.entry(1, 0, 2);
        Steps.due("at(0): an entry changes no hits", s.q.at(0), 0);
        s.dueHits("run(1) again", s.q.run(1), 1);
    }
}
