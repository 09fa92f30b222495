/** Promise 7: near. What is UNKNOWN is tested in WrongTest. */
public final class NearTest {
    private static final int NONE = QuerySteps.NONE;

    public static void main(String[] args) {
        Steps.sentence("the fewest letters to put in", NearTest::putIn);
        Steps.sentence("the fewest letters to take out", NearTest::takeOut);
        Steps.sentence("the fewest letters to change", NearTest::change);
        Steps.sentence("put in, take out or change, all together", NearTest::together);
        Steps.sentence("of several the first", NearTest::theFirst);
        Steps.sentence("the nearest one, however far", NearTest::howeverFar);
        Steps.sentence("the nearest one of eight", NearTest::lastOfEight);
        Steps.sentence("NONE if there are none", NearTest::noIndexes);
        Steps.sentence("NONE if nothing was UNKNOWN: no text was read", NearTest::noText);
        Steps.sentence("NONE if nothing was UNKNOWN: the latest text fits", NearTest::latestFits);
        Steps.sentence("NONE if nothing was UNKNOWN: the latest text is WRONG otherwise", NearTest::otherwiseWrong);
        Steps.sentence("NONE if nothing was UNKNOWN: the latest text is empty", NearTest::latestIsEmpty);
        Steps.sentence("the latest text that was read: calls of other sorts change nothing", NearTest::otherCalls);
        Steps.sentence("the latest of two that were UNKNOWN", NearTest::latestUnknown);
        Steps.sentence("the first one in the text, behind which nothing is read", NearTest::firstInText);
        Steps.sentence("of the indexes that there are when it is asked", NearTest::indexesAsTheyAreNow);
        Steps.end();
    }

    private static void putIn() {
        Steps s = new Steps("title", "year");
        s.dueUnknown(0, "titl=1", 0, 0);
        s.dueUnknown(1, "yar 1", 0, 1);
        s.dueUnknown(0, "ear=1", 0, 1);
        s.dueUnknown(0, "y=1", 0, 1);
        Steps one = new Steps("xxxx", "ab");
        one.dueUnknown(0, "a=1", 0, 1);
        one.dueUnknown(0, "b=1", 0, 1);
    }

    private static void takeOut() {
        Steps s = new Steps("title", "year");
        s.dueUnknown(0, "yearr=1", 0, 1);
        s.dueUnknown(0, "yyear=1", 0, 1);
        s.dueUnknown(1, "tiitle 1", 0, 0);
        Steps one = new Steps("xxxx", "a");
        one.dueUnknown(0, "bab=1", 0, 1);
    }

    private static void change() {
        Steps s = new Steps("title", "year", "author");
        s.dueUnknown(0, "auther=1", 0, 2);
        s.dueUnknown(1, "outhor 1", 0, 2);
        s.dueUnknown(0, "yeaz=1", 0, 1);
        s.dueUnknown(0, "zzzzz=1", 0, 0);
        s.dueUnknown(0, "zzzz=1", 0, 1);
    }

    private static void together() {
        // bcda: one taken out and one put in make abcd; three changes make bbbb.
        Steps moved = new Steps("bbbb", "abcd");
        moved.dueUnknown(0, "bcda=1", 0, 1);
        // Two that change places are two changes, not one.
        Steps swapped = new Steps("bax", "aby");
        swapped.dueUnknown(0, "abx=1", 0, 1);
        Steps mixed = new Steps("kitten", "sittings");
        mixed.dueUnknown(0, "sitting=1", 0, 1);
        mixed.dueUnknown(0, "sitten=1", 0, 0);
    }

    private static void theFirst() {
        Steps s = new Steps("ab", "ac", "a");
        s.dueUnknown(0, "ad=1", 0, 0);
        s.dueUnknown(0, "cc=1", 0, 1);
        s.dueUnknown(0, "ba=1", 0, 2);
        s.dueUnknown(0, "abac=1", 0, 0);
        Steps turned = new Steps("a", "ac", "ab");
        turned.dueUnknown(0, "ad=1", 0, 0);
        turned.dueUnknown(0, "zc=1", 0, 1);
        turned.dueUnknown(0, "abac=1", 0, 1);
    }

    private static void howeverFar() {
        Steps s = new Steps("cdefghij", "ab");
        s.dueUnknown(0, "x=1", 0, 1);
        s.dueUnknown(0, Steps.times("x", 200), 0, 0);
        s.dueUnknown(0, Steps.times("x", 198) + "ab", 0, 1);
        Steps last = new Steps("cdefghij", "ab");
        last.dueUnknown(0, Steps.times("x", 199) + "b", 0, 1);
    }

    private static void lastOfEight() {
        Steps s = new Steps("aaaaaaaa", "bbbbbbbb", "cccccccc", "dddddddd", "eeeeeeee", "ffffffff", "gggggggg",
                "hhhhhhhh");
        s.dueUnknown(0, "hhhhhhhx=1", 0, 7);
        s.dueUnknown(0, "hxxxxxxx=1", 0, 7);
        s.dueUnknown(0, "xxxxxxxx=1", 0, 0);
    }

    private static void noIndexes() {
        Steps s = new Steps();
        s.dueUnknown(0, "a=1", 0, NONE);
        s.dueUnknown(1, "a 1", 0, NONE);
    }

    private static void noText() {
        Steps s = new Steps("a", "b");
        Steps.due("near()", s.q.near(), NONE);
        s.collect("bb");
        Steps.due("near() while signs are collected", s.q.near(), NONE);
        Steps.due("index of bb", s.q.index(), 2);
        Steps.due("near() after index", s.q.near(), NONE);
    }

    private static void latestFits() {
        Steps s = new Steps("a", "b");
        s.dueUnknown(0, "bb=1", 0, 1);
        s.dueRead(0, "a=1", 1);
        Steps.due("near() after FORM 0", s.q.near(), NONE);
        s.dueUnknown(1, "bb 1", 0, 1);
        s.dueRead(1, "a 1", 1);
        Steps.due("near() after FORM 1", s.q.near(), NONE);
    }

    private static void otherwiseWrong() {
        Steps s = new Steps("a", "b");
        String[] wrong = {"a=", "A=1", "a=1 xor b=2", "a=9..8", "a=123456", "(((((((((((((((((((((", "?"};
        for (String text : wrong) {
            s.dueUnknown(0, "bb=1", 0, 1);
            Steps.due("'" + text + "' is WRONG", s.read(0, text) < 0, true);
            Steps.due("near() after '" + text + "'", s.q.near(), NONE);
        }
        s.dueUnknown(0, "bb=1", 0, 1);
        s.dueUnknown(0, Steps.times("a=1 or ", 20) + "b=1", 140, NONE);
    }

    private static void latestIsEmpty() {
        Steps s = new Steps("a", "b");
        s.dueUnknown(0, "bb=1", 0, 1);
        s.dueUnknown(0, "", 0, NONE);
        s.dueUnknown(1, "bb 1", 0, 1);
        s.dueUnknown(1, "", 0, NONE);
    }

    private static void otherCalls() {
        Steps s = new Steps("a", "b");
        s.saved(0, 0, "a=1");
        s.dueUnknown(0, "bb=1", 0, 1);
        Steps.due("near() again", s.q.near(), 1);
        Steps.due("index of C", s.index("C"), NONE);
        Steps.due("near() after index", s.q.near(), 1);
        s.collect("a=");
        Steps.due("near() while signs are collected", s.q.near(), 1);
        s.q.on(1, false);
        s.q.record(1);
        s.q.entry(1, 0, 1);
        s.q.run(0);
        s.q.alert(0);
        s.q.save(1);
        s.q.node(0, 0);
        Steps.due("near() after many calls", s.q.near(), 1);
    }

    private static void latestUnknown() {
        Steps s = new Steps("aaaa", "bbbb");
        s.dueUnknown(0, "bbbbbbbbbbbb=1", 0, 1);
        s.dueUnknown(0, "aaa=1", 0, 0);
        s.dueUnknown(1, "bbb 1", 0, 1);
    }

    private static void firstInText() {
        Steps s = new Steps("aaaa", "bbbb");
        s.dueUnknown(0, "bbb=1 or aaa=1", 0, 1);
        s.dueUnknown(0, "aaaa=1 or aaa=1 or bbb=1", 10, 0);
        s.dueUnknown(1, "or ( bbb 1 ) ( aaa 1 )", 5, 1);
    }

    private static void indexesAsTheyAreNow() {
        Steps s = new Steps();
        s.dueUnknown(0, "bb=1", 0, NONE);
        Steps.due("index of x", s.index("x"), 0);
        Steps.due("near()", s.q.near(), 0);
        Steps.due("index of bbb", s.index("bbb"), 1);
        Steps.due("near()", s.q.near(), 1);
        Steps.due("index of bb", s.index("bb"), 2);
        Steps.due("near()", s.q.near(), 2);
        s.q.on(2, false);
        Steps.due("near() with the nearest off", s.q.near(), 2);
    }
}
