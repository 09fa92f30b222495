/** Promise 7: near. */
public final class NearTest {
    private static final int NONE = QuerySteps.NONE;

    public static void main(String[] args) {
        beforeATextIsRead();
        lettersPutInTakenOutChanged();
        whatIsUnknown();
        whatIsNot();
        onlyTheLatestTextCounts();
        indexesAsTheyAreNow();
        longRows();
        Steps.end();
    }

    private static void beforeATextIsRead() {
        Steps s = new Steps("a", "b");
        Steps.due("near() before a text is read", s.q.near(), NONE);
    }

    private static void lettersPutInTakenOutChanged() {
        Steps s = new Steps("title", "year", "author");
        s.dueUnknown(0, "titl=1", 0, 0);
        s.dueUnknown(0, "yearr=1", 0, 1);
        s.dueUnknown(0, "auther=1", 0, 2);
        s.dueUnknown(1, "yar 1", 0, 1);
        s.dueUnknown(1, "outhor 1", 0, 2);
        s.dueUnknown(0, "zzzzz=1", 0, 0);
        s.dueUnknown(0, "zzzz=1", 0, 1);
        Steps first = new Steps("ab", "ac", "a");
        first.dueUnknown(0, "ad=1", 0, 0);
        first.dueUnknown(0, "cc=1", 0, 1);
        first.dueUnknown(0, "ba=1", 0, 2);
        first.dueUnknown(0, "abac=1", 0, 0);
        Steps longFirst = new Steps("cdefghij", "ab");
        longFirst.dueUnknown(0, "x=1", 0, 1);
        Steps moved = new Steps("bbbb", "abcd");
        moved.dueUnknown(0, "bcda=1", 0, 1);
    }

    private static void whatIsUnknown() {
        Steps s = new Steps("ant", "nut", "our");
        s.dueUnknown(0, "and=1", 0, 0);
        s.dueUnknown(0, "not=1", 0, 1);
        s.dueUnknown(0, "or=1", 0, 2);
        s.dueUnknown(0, "ant=1 and not ant=2", 10, 1);
        s.dueUnknown(0, "ant=1 or (nutt=2)", 10, 1);
        s.dueUnknown(1, "ands ( ant 1 ) ( nut 2 )", 0, 0);
        s.dueUnknown(1, "and ( ant 1 ) ( ou 2 )", 16, 2);
        s.dueUnknown(0, "nuT=1", 0, 1);
        s.dueUnknown(0, "anx", 0, 0);
    }

    private static void whatIsNot() {
        Steps s = new Steps("ant", "nut");
        s.dueUnknown(0, "", 0, NONE);
        s.dueUnknown(0, "Ant=1", 0, NONE);
        s.dueUnknown(0, "ant=x", 4, NONE);
        s.dueUnknown(0, "ant=1 xor nut=1", 6, NONE);
        s.dueUnknown(0, "ant=1 andx=1", 6, NONE);
        s.dueUnknown(1, "and", 3, NONE);
        s.dueUnknown(1, "ant 1 x", 6, NONE);
        s.dueUnknown(1, "and ant 1", 4, NONE);
        s.dueUnknown(1, "ant nut", 4, NONE);
    }

    private static void onlyTheLatestTextCounts() {
        Steps s = new Steps("a", "b");
        s.dueUnknown(0, "bb=1", 0, 1);
        Steps.due("near() again", s.q.near(), 1);
        Steps.due("index of C", s.index("C"), NONE);
        Steps.due("near() after index", s.q.near(), 1);
        s.collect("a=");
        Steps.due("near() while signs are collected", s.q.near(), 1);
        s.collect("1");
        Steps.due("read(0)", s.q.read(0), 1);
        Steps.due("near() after a text that is not WRONG", s.q.near(), NONE);
        s.dueUnknown(0, "bb=1", 0, 1);
        s.dueUnknown(0, "a=", 2, NONE);
    }

    private static void indexesAsTheyAreNow() {
        Steps s = new Steps();
        s.dueUnknown(0, "bb=1", 0, NONE);
        Steps.due("index of x", s.index("x"), 0);
        Steps.due("near()", s.q.near(), 0);
        Steps.due("index of bbb", s.index("bbb"), 1);
        Steps.due("near()", s.q.near(), 1);
        Steps.due("index of bb", s.index("bb"), 2);
        Steps.due("near()", s.q.near(), 2);
        s.q.on(2, false);
        Steps.due("near() with the nearest off", s.q.near(), 2);
    }

    private static void longRows() {
        Steps s = new Steps("a", "bcdefghi");
        s.dueUnknown(0, Steps.times("a", 200), 0, 0);
        s.dueUnknown(0, Steps.times("z", 192) + "bcdefghi", 0, 1);
        s.dueUnknown(1, Steps.times("z", 100) + "cegi 1", 0, 1);
    }
}
