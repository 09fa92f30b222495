/** Promise 12: alert. */
public final class AlertTest {
    private static final int NONE = QuerySteps.NONE;

    public static void main(String[] args) {
        Steps.sentence("the records whose MOMENT is above that of the latest record", AlertTest::above);
        Steps.sentence("above: not the same MOMENT", AlertTest::theSameMoment);
        Steps.sentence("the latest record that there was, whether it meets it or not", AlertTest::latestThatWas);
        Steps.sentence("when it was looked at so latest: each time anew", AlertTest::eachTimeAnew);
        Steps.sentence("when it was looked at so: run is no such look", AlertTest::runIsNoLook);
        Steps.sentence("when it was looked at so: each question for itself", AlertTest::eachForItself);
        Steps.sentence("(all, the first time)", AlertTest::firstTime);
        Steps.sentence("(all, the first time): the least MOMENT, too", AlertTest::leastMoment);
        Steps.sentence("the greatest MOMENT has none above it", AlertTest::greatestMoment);
        Steps.sentence("there was no latest record: all that come later are above", AlertTest::withoutRecords);
        Steps.sentence("how many meet it: of the new ones, as they are now", AlertTest::howMany);
        Steps.sentence("they are THE HITS likewise: the latest first, then by number", AlertTest::hits);
        Steps.sentence("they are THE HITS likewise: none in place of those before", AlertTest::noHits);
        Steps.sentence("NONE, and nothing happens, if there is none such", AlertTest::noneSuch);
        Steps.sentence("NONE, and nothing happens, if it is BROKEN: the hits stay", AlertTest::brokenHitsStay);
        Steps.sentence("NONE, and nothing happens, if it is BROKEN: it is no look", AlertTest::brokenIsNoLook);
        Steps.sentence("how many meet it: all 60", AlertTest::allSixty);
        Steps.end();
    }

    private static void add(Steps s, long moment, int value) {
        int number = s.q.record(moment);
        s.q.entry(number, 0, value);
    }

    /** Question 0 asks for the value 1 of index a. */
    private static Steps at(long... moments) {
        Steps s = new Steps("a");
        s.saved(0, 0, "a=1");
        for (long moment : moments) {
            add(s, moment, 1);
        }
        return s;
    }

    private static void above() {
        Steps s = at(5, 6);
        s.dueHits("alert(0)", s.q.alert(0), 2, 1);
        s.dueHits("alert(0), nothing new", s.q.alert(0));
        add(s, 7, 1);
        s.dueHits("alert(0), one above", s.q.alert(0), 3);
        add(s, 1L << 40, 1);
        s.dueHits("alert(0), one far above", s.q.alert(0), 4);
    }

    private static void theSameMoment() {
        Steps s = at(5);
        s.dueHits("alert(0)", s.q.alert(0), 1);
        add(s, 5, 1);
        s.dueHits("alert(0), the same MOMENT", s.q.alert(0));
        add(s, 6, 1);
        s.dueHits("alert(0), one above", s.q.alert(0), 3);
        s.dueHits("run(0)", s.q.run(0), 3, 1, 2);
    }

    private static void latestThatWas() {
        Steps s = at(5);
        add(s, 9, 2);
        s.dueHits("alert(0)", s.q.alert(0), 1);
        add(s, 9, 1);
        s.dueHits("alert(0), above the latest hit only", s.q.alert(0));
        add(s, 12, 2);
        s.dueHits("alert(0), none meets it", s.q.alert(0));
        add(s, 12, 1);
        s.dueHits("alert(0), as late as one that did not meet it", s.q.alert(0));
        add(s, 13, 1);
        s.dueHits("alert(0)", s.q.alert(0), 6);
    }

    private static void eachTimeAnew() {
        Steps s = at();
        for (int i = 1; i <= 20; i++) {
            add(s, i, 1);
            s.dueHits("alert(0) at " + i, s.q.alert(0), i);
        }
        s.dueHits("alert(0)", s.q.alert(0));
    }

    private static void runIsNoLook() {
        Steps s = at(5, 5);
        s.dueHits("run(0)", s.q.run(0), 1, 2);
        s.dueHits("alert(0) after run", s.q.alert(0), 1, 2);
        add(s, 6, 1);
        s.dueHits("run(0)", s.q.run(0), 3, 1, 2);
        s.dueHits("alert(0) after run", s.q.alert(0), 3);
        s.dueHits("run(0) after alert", s.q.run(0), 3, 1, 2);
    }

    private static void eachForItself() {
        Steps s = at(5, 5);
        s.saved(9, 0, "a=1");
        s.dueHits("alert(0)", s.q.alert(0), 1, 2);
        add(s, 6, 1);
        s.dueHits("alert(9)", s.q.alert(9), 3, 1, 2);
        s.dueHits("alert(0)", s.q.alert(0), 3);
        s.dueHits("alert(9)", s.q.alert(9));
    }

    private static void firstTime() {
        Steps s = at(-9, -5, 0);
        s.dueHits("alert(0)", s.q.alert(0), 3, 2, 1);
    }

    private static void leastMoment() {
        Steps s = at(Long.MIN_VALUE);
        s.dueHits("alert(0)", s.q.alert(0), 1);
        add(s, Long.MIN_VALUE, 1);
        s.dueHits("alert(0), the same MOMENT", s.q.alert(0));
        add(s, Long.MIN_VALUE + 1, 1);
        s.dueHits("alert(0), one above", s.q.alert(0), 3);
    }

    private static void greatestMoment() {
        Steps s = at(-1);
        s.dueHits("alert(0)", s.q.alert(0), 1);
        add(s, Long.MAX_VALUE, 1);
        s.dueHits("alert(0)", s.q.alert(0), 2);
        add(s, Long.MAX_VALUE, 1);
        s.dueHits("alert(0)", s.q.alert(0));
    }

    private static void withoutRecords() {
        Steps s = at();
        s.dueHits("alert(0) without records", s.q.alert(0));
        s.dueHits("alert(0) again", s.q.alert(0));
        add(s, Long.MIN_VALUE, 1);
        add(s, -3, 1);
        s.dueHits("alert(0), two records", s.q.alert(0), 2, 1);
        s.dueHits("alert(0) again", s.q.alert(0));
    }

    private static void howMany() {
        Steps s = at(5);
        s.dueHits("alert(0)", s.q.alert(0), 1);
        add(s, 6, 1);
        add(s, 7, 2);
        add(s, 8, 1);
        s.dueHits("alert(0), two of three", s.q.alert(0), 4, 2);
        s.q.entry(3, 0, 1);
        s.dueHits("alert(0), an old record that meets it now", s.q.alert(0));
        add(s, 9, 2);
        s.q.entry(5, 0, 1);
        s.dueHits("alert(0), a new one that meets it by a later entry", s.q.alert(0), 5);
    }

    private static void hits() {
        Steps s = at(1);
        s.dueHits("alert(0)", s.q.alert(0), 1);
        long[] moments = {3, 3, 4, 7, 7};
        for (long moment : moments) {
            add(s, moment, 1);
        }
        s.dueHits("alert(0)", s.q.alert(0), 5, 6, 4, 2, 3);
    }

    private static void noHits() {
        Steps s = at(1, 2);
        s.dueHits("alert(0)", s.q.alert(0), 2, 1);
        s.dueHits("alert(0) again", s.q.alert(0));
        Steps.due("at(1)", s.q.at(1), 0);
    }

    private static void noneSuch() {
        Steps s = at(5, 5);
        s.dueHits("run(0)", s.q.run(0), 1, 2);
        int[] none = {-1, 1, 9, 10, 256, Integer.MAX_VALUE, Integer.MIN_VALUE};
        for (int question : none) {
            Steps.due("alert(" + question + ")", s.q.alert(question), NONE);
            Steps.due("at(0): the hits stay", s.q.at(0), 1);
            Steps.due("at(1): the hits stay", s.q.at(1), 2);
        }
        s.dueRead(0, "a=1", 1);
        Steps.due("save(1)", s.q.save(1), 1);
        s.dueHits("alert(1): no look before it was saved", s.q.alert(1), 1, 2);
    }

    private static void brokenHitsStay() {
        Steps s = at(5, 5);
        s.dueHits("run(0)", s.q.run(0), 1, 2);
        s.q.on(0, false);
        Steps.due("alert(0), which is BROKEN", s.q.alert(0), NONE);
        Steps.due("at(0): the hits stay", s.q.at(0), 1);
        Steps.due("at(1): the hits stay", s.q.at(1), 2);
    }

    private static void brokenIsNoLook() {
        Steps s = at(5);
        s.q.on(0, false);
        Steps.due("alert(0), the first time", s.q.alert(0), NONE);
        s.q.on(0, true);
        s.dueHits("alert(0), all still", s.q.alert(0), 1);
        add(s, 6, 1);
        s.q.on(0, false);
        Steps.due("alert(0), a second time", s.q.alert(0), NONE);
        s.q.on(0, true);
        s.dueHits("alert(0), the new one still", s.q.alert(0), 2);
    }

    private static void allSixty() {
        Steps s = at(new long[60]);
        int[] want = new int[60];
        for (int i = 0; i < 60; i++) {
            want[i] = i + 1;
        }
        s.dueHits("alert(0)", s.q.alert(0), want);
        s.dueHits("alert(0) again", s.q.alert(0));
    }
}
