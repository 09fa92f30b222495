/** Promise 13: at. */
public final class AtTest {
    public static void main(String[] args) {
        Steps.sentence("The i-th of THE HITS, from 0 on", AtTest::fromZeroOn);
        Steps.sentence("0 if there is none such: nothing was run yet", AtTest::nothingRun);
        Steps.sentence("0 if there is none such: below 0", AtTest::tooSmall);
        Steps.sentence("0 if there is none such: behind the last", AtTest::tooLarge);
        Steps.sentence("0 if there is none such: nothing of larger hits before", AtTest::fewerThanBefore);
        Steps.sentence("the last of 60", AtTest::lastOfSixty);
        Steps.sentence("THE HITS: only run and alert change them", AtTest::otherCalls);
        Steps.end();
    }

    /** Record i has the value i of index a; question 0 asks for all, question 1 for record 2. */
    private static Steps records(int count) {
        Steps s = new Steps("a");
        for (int i = 1; i <= count; i++) {
            s.q.record(i);
            s.q.entry(i, 0, i);
        }
        s.saved(0, 0, "a=0..99999");
        s.saved(1, 0, "a=2");
        return s;
    }

    private static void fromZeroOn() {
        Steps s = records(3);
        Steps.due("run(0)", s.q.run(0), 3);
        Steps.due("at(0)", s.q.at(0), 3);
        Steps.due("at(1)", s.q.at(1), 2);
        Steps.due("at(2)", s.q.at(2), 1);
        Steps.due("at(0) again", s.q.at(0), 3);
    }

    private static void nothingRun() {
        Steps s = records(3);
        for (int i = -1; i <= 60; i++) {
            Steps.due("at(" + i + ")", s.q.at(i), 0);
        }
    }

    private static void tooSmall() {
        Steps s = records(3);
        s.q.run(0);
        int[] none = {-1, -2, -60, Integer.MIN_VALUE};
        for (int i : none) {
            Steps.due("at(" + i + ")", s.q.at(i), 0);
        }
    }

    private static void tooLarge() {
        Steps s = records(3);
        s.q.run(0);
        int[] none = {3, 4, 59, 60, 256, Integer.MAX_VALUE};
        for (int i : none) {
            Steps.due("at(" + i + ")", s.q.at(i), 0);
        }
    }

    private static void fewerThanBefore() {
        Steps s = records(3);
        s.q.run(0);
        Steps.due("run(1)", s.q.run(1), 1);
        Steps.due("at(0)", s.q.at(0), 2);
        Steps.due("at(1)", s.q.at(1), 0);
        Steps.due("at(2)", s.q.at(2), 0);
    }

    private static void lastOfSixty() {
        Steps s = records(60);
        Steps.due("run(0)", s.q.run(0), 60);
        Steps.due("at(0)", s.q.at(0), 60);
        Steps.due("at(59)", s.q.at(59), 1);
        Steps.due("at(60)", s.q.at(60), 0);
    }

    private static void otherCalls() {
        Steps s = records(3);
        s.q.run(1);
        s.q.record(4);
        s.q.entry(4, 0, 2);
        s.q.entry(2, 0, 9);
        s.read(0, "a=1");
        s.q.save(1);
        s.q.on(0, false);
        s.q.near();
        s.q.broken();
        s.q.same(0, 1);
        Steps.due("at(0)", s.q.at(0), 2);
        Steps.due("at(1)", s.q.at(1), 0);
    }
}
