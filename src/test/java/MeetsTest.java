/** The terms: what a record must have to MEET a tree. */
public final class MeetsTest {
    public static void main(String[] args) {
        Steps.sentence("0 a LEAF: an index and a value", MeetsTest::leaf);
        Steps.sentence("a LEAF of the least and of the greatest value", MeetsTest::leafEdges);
        Steps.sentence("1 a RANGE: an index, a least and a greatest value", MeetsTest::range);
        Steps.sentence("a RANGE of one value, and of all", MeetsTest::rangeEdges);
        Steps.sentence("2 BEGINS: a value which a record's value begins with", MeetsTest::begins);
        Steps.sentence("begins with: a value begins with itself", MeetsTest::beginsWithItself);
        Steps.sentence("begins with: not if it is longer than the value", MeetsTest::longerBeginning);
        Steps.sentence("by its decimal digits: those in front, not those at the end", MeetsTest::digitsInFront);
        Steps.sentence("by its decimal digits: zeros in front are none", MeetsTest::zerosInFront);
        Steps.sentence("(0 is one digit)", MeetsTest::zeroIsOneDigit);
        Steps.sentence("3 AND of two trees", () -> dueTable("and", false, false, false, true));
        Steps.sentence("4 OR of two trees", () -> dueTable("or", false, true, true, true));
        Steps.sentence("5 NOT (the first, and not the second)", () -> dueTable("not", false, false, true, false));
        Steps.sentence("of two trees each: trees of trees", MeetsTest::treesOfTrees);
        Steps.sentence("if one of its entries does: one of eight is enough", MeetsTest::oneOfEight);
        Steps.sentence("if one of its entries does: not two of them together", MeetsTest::notTwoTogether);
        Steps.sentence("if one of its entries does: another one for each part", MeetsTest::anotherForEachPart);
        Steps.sentence("one of its entries of that index", MeetsTest::ofThatIndex);
        Steps.sentence("a record without entries meets no LEAF, RANGE or BEGINS", MeetsTest::withoutEntries);
        Steps.sentence("trees of as many nodes as there may be", MeetsTest::largestTrees);
        Steps.end();
    }

    /** A record for each value, the first at MOMENT 0; hits come from the last to the first. */
    private static Steps records(int... values) {
        Steps s = new Steps("a", "b");
        for (int i = 0; i < values.length; i++) {
            s.q.record(i);
            s.q.entry(i + 1, 0, values[i]);
        }
        return s;
    }

    private static void dueRun(Steps s, String text, int... want) {
        s.saved(0, 0, text);
        s.dueHits("run of " + text, s.q.run(0), want);
    }

    private static void leaf() {
        Steps s = records(5, 6, 7);
        dueRun(s, "a=6", 2);
        dueRun(s, "a=8");
        dueRun(s, "a=60");
        dueRun(s, "b=6");
    }

    private static void leafEdges() {
        Steps s = records(0, 1, 99998, 99999);
        dueRun(s, "a=0", 1);
        dueRun(s, "a=99999", 4);
        dueRun(s, "a=00001", 2);
    }

    private static void range() {
        Steps s = records(4, 5, 6, 7, 8);
        dueRun(s, "a=5..7", 4, 3, 2);
        dueRun(s, "a=0..4", 1);
        dueRun(s, "a=0..3");
        dueRun(s, "a=8..99999", 5);
        dueRun(s, "a=9..99999");
        dueRun(s, "b=5..7");
    }

    private static void rangeEdges() {
        Steps s = records(0, 1, 2, 99999);
        dueRun(s, "a=1..1", 2);
        dueRun(s, "a=0..0", 1);
        dueRun(s, "a=99999..99999", 4);
        dueRun(s, "a=0..99999", 4, 3, 2, 1);
    }

    private static void begins() {
        Steps s = records(0, 1, 10, 12, 19999, 2, 21, 100);
        dueRun(s, "a=1*", 8, 5, 4, 3, 2);
        dueRun(s, "a=10*", 8, 3);
        dueRun(s, "a=2*", 7, 6);
        dueRun(s, "a=3*");
        dueRun(s, "b=1*");
    }

    private static void beginsWithItself() {
        Steps s = records(1, 19999, 99999, 100);
        dueRun(s, "a=19999*", 2);
        dueRun(s, "a=99999*", 3);
        dueRun(s, "a=100*", 4);
        dueRun(s, "a=9999*", 3);
    }

    private static void longerBeginning() {
        Steps s = records(1, 10, 100);
        dueRun(s, "a=1000*");
        dueRun(s, "a=100*", 3);
        dueRun(s, "a=10000*");
    }

    private static void digitsInFront() {
        Steps s = records(12, 21, 120, 212, 112);
        dueRun(s, "a=2*", 4, 2);
        dueRun(s, "a=12*", 3, 1);
        dueRun(s, "a=21*", 4, 2);
        dueRun(s, "a=20*");
    }

    private static void zerosInFront() {
        Steps s = records(1, 10, 100, 7, 70);
        dueRun(s, "a=01*", 3, 2, 1);
        dueRun(s, "a=00007*", 5, 4);
        dueRun(s, "a=0001*", 3, 2, 1);
    }

    private static void zeroIsOneDigit() {
        Steps s = records(0, 1, 10, 100, 99999);
        dueRun(s, "a=0*", 1);
        dueRun(s, "a=00000*", 1);
        dueRun(s, "a=1*", 4, 3, 2);
        dueRun(s, "a=10*", 4, 3);
    }

    /** Four records: one that meets neither tree, the second, the first, and both. */
    private static void dueTable(String word, boolean neither, boolean second, boolean first, boolean both) {
        boolean[] want = {neither, second, first, both};
        Steps s = new Steps("a", "b");
        s.saved(0, 0, "a=1 " + word + " b=1");
        for (int i = 0; i < 4; i++) {
            int number = s.q.record(i);
            if (i == 2 || i == 3) {
                s.q.entry(number, 0, 1);
            }
            if (i == 1 || i == 3) {
                s.q.entry(number, 1, 1);
            }
            Steps.due("alert for record " + number, s.q.alert(0), want[i] ? 1 : 0);
        }
    }

    private static void treesOfTrees() {
        Steps s = records(1, 2, 3, 4);
        s.q.entry(1, 1, 1);
        s.q.entry(3, 1, 1);
        dueRun(s, "a=1..3 and b=1", 3, 1);
        dueRun(s, "a=4 or b=1", 4, 3, 1);
        dueRun(s, "b=1 not a=1", 3);
        dueRun(s, "a=1 or a=2 not b=1", 2);
        dueRun(s, "a=1 or (a=2 not b=1)", 2, 1);
        dueRun(s, "a=1 not (a=1 not b=2)");
        dueRun(s, "a=0..9 not (b=1 or a=2)", 4);
        dueRun(s, "(a=1 or a=2) and (b=1 or a=4)", 1);
        dueRun(s, "a=0..9 not (a=0..9 not b=1)", 3, 1);
    }

    private static void oneOfEight() {
        Steps s = records();
        s.q.record(1);
        for (int i = 1; i <= 8; i++) {
            s.q.entry(1, 0, i * 10);
        }
        for (int i = 1; i <= 8; i++) {
            dueRun(s, "a=" + i * 10, 1);
            dueRun(s, "a=" + (i * 10 - 1) + ".." + (i * 10 + 1), 1);
            dueRun(s, "a=" + i + "*", 1);
        }
        dueRun(s, "a=90");
    }

    private static void notTwoTogether() {
        Steps s = records(1);
        s.q.entry(1, 0, 9);
        dueRun(s, "a=4..6");
        dueRun(s, "a=5");
        dueRun(s, "a=19*");
    }

    private static void anotherForEachPart() {
        Steps s = records(5);
        s.q.entry(1, 0, 6);
        s.q.entry(1, 1, 7);
        dueRun(s, "a=5 and a=6", 1);
        dueRun(s, "a=6 and b=7", 1);
        dueRun(s, "a=5 not a=6");
        dueRun(s, "a=5 not b=6", 1);
    }

    private static void ofThatIndex() {
        Steps s = records(5);
        s.q.entry(1, 1, 6);
        dueRun(s, "a=5", 1);
        dueRun(s, "b=5");
        dueRun(s, "a=6");
        dueRun(s, "b=0..5");
        dueRun(s, "b=6*", 1);
        dueRun(s, "a=6*");
    }

    private static void withoutEntries() {
        Steps s = new Steps("a");
        s.q.record(1);
        dueRun(s, "a=0");
        dueRun(s, "a=0..99999");
        dueRun(s, "a=0*");
        dueRun(s, "a=0 or a=0*");
        dueRun(s, "a=0 not a=0");
    }

    private static void largestTrees() {
        dueRun(records(1, 2), Steps.times("a=1 or ", 19) + "a=2", 2, 1);
        dueRun(records(1, 2), Steps.times("a=1 and ", 19) + "a=2");
        dueRun(records(1, 2), Steps.times("(a=2 or ", 19) + "a=1" + Steps.times(")", 19), 2, 1);
        dueRun(records(1, 2), Steps.times("(a=1 not ", 19) + "a=1" + Steps.times(")", 19));
        dueRun(records(1, 2), Steps.times("(a=1 not ", 18) + "a=1" + Steps.times(")", 18), 1);
    }
}
