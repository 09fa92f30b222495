/** Promise 3: index, and the INDEXES of the terms. */
public final class IndexTest {
    private static final int NONE = QuerySteps.NONE;

    public static void main(String[] args) {
        Steps.sentence("INDEXES are 0 .. 7", IndexTest::zeroToSeven);
        Steps.sentence("in the order in which they were told", IndexTest::inTheOrderTold);
        Steps.sentence("a NAME of 1 letter at least", IndexTest::oneLetterAtLeast);
        Steps.sentence("a NAME of 8 letters at most", IndexTest::eightLettersAtMost);
        Steps.sentence("small letters", IndexTest::smallLetters);
        Steps.sentence("that is on", IndexTest::newOnesAreOn);
        Steps.sentence("nothing is collected any more", IndexTest::nothingIsCollectedAnyMore);
        Steps.sentence("NONE if it is no NAME", IndexTest::noName);
        Steps.sentence("NONE if another index has it", IndexTest::taken);
        Steps.sentence("another index has it only if all letters are the same", IndexTest::likeAnotherOne);
        Steps.sentence("NONE if it is and, or or not", IndexTest::joiningWords);
        Steps.sentence("a NAME may begin or end as and, or, not do", IndexTest::nearlyJoiningWords);
        Steps.sentence("NONE if there are 8", IndexTest::eightAtMost);
        Steps.sentence("nothing is collected any more if it is NONE, either", IndexTest::clearedIfNone);
        Steps.end();
    }

    private static Steps eight() {
        return new Steps("a", "b", "c", "d", "e", "f", "g", "h");
    }

    private static void zeroToSeven() {
        Steps s = eight();
        s.dueTree(0, "a=1 or h=2", 4, NONE, NONE, NONE, 0, 0, 1, NONE, 0, 7, 2, NONE);
        Steps.due("record(1)", s.q.record(1), 1);
        Steps.due("entry of index 0", s.q.entry(1, 0, 1), 1);
        Steps.due("entry of index 7", s.q.entry(1, 7, 1), 2);
        Steps.due("entry of index 8", s.q.entry(1, 8, 1), 0);
        Steps.due("entry of index -1", s.q.entry(1, -1, 1), 0);
    }

    private static void inTheOrderTold() {
        Steps s = new Steps("z", "b");
        Steps.due("index of B, refused", s.index("B"), NONE);
        Steps.due("index of z, refused", s.index("z"), NONE);
        Steps.due("index of a: a refused one takes no number", s.index("a"), 2);
        s.dueTree(0, "a=1", 0, 2, 1, NONE);
        s.dueTree(0, "z=1", 0, 0, 1, NONE);
    }

    private static void oneLetterAtLeast() {
        Steps s = new Steps();
        Steps.due("index of nothing", s.index(""), NONE);
        Steps.due("index of a letter", s.index("q"), 0);
        s.dueTree(0, "q=1", 0, 0, 1, NONE);
    }

    private static void eightLettersAtMost() {
        Steps s = new Steps();
        Steps.due("index of nine letters", s.index("abcdefghi"), NONE);
        Steps.due("index of eight letters", s.index("abcdefgh"), 0);
        s.dueTree(0, "abcdefgh=1", 0, 0, 1, NONE);
        s.dueWrong(0, "abcdefghi=1", 0);
        s.dueWrong(0, "abcdefg=1", 0);
    }

    private static void smallLetters() {
        Steps s = new Steps("a", "z", "azazazaz");
        String[] none = {"`", "{", "A", "Z", "0", "9", "@", "[", "\u00e9", "\u00ff", "\u007f", "\u0000"};
        for (String sign : none) {
            Steps.due("index of '" + sign + "'", s.index(sign), NONE);
        }
    }

    private static void newOnesAreOn() {
        Steps s = new Steps("a", "b");
        Steps.due("on(1, true)", s.q.on(1, true), true);
        Steps.due("on(0, true)", s.q.on(0, true), true);
        s.saved(0, 0, "a=1 or b=1");
        Steps.due("broken()", s.q.broken(), 0);
        s.q.on(0, false);
        Steps.due("index of c, told while another is off", s.index("c"), 2);
        Steps.due("on(2, true)", s.q.on(2, true), true);
    }

    private static void nothingIsCollectedAnyMore() {
        Steps s = new Steps("a");
        s.dueWrong(0, "", 0);
        Steps.due("index of b", s.index("b"), 1);
        Steps.due("index() of nothing", s.q.index(), NONE);
        Steps.due("index of c", s.index("c"), 2);
        s.dueTree(0, "c=1", 0, 2, 1, NONE);
    }

    private static void noName() {
        Steps s = new Steps();
        String[] none = {"", "abcdefghi", "aB", "Ab", "a1", "1a", "a b", "a ", " a", "a=", "a=1", "(a)", "abcdefg "};
        for (String name : none) {
            Steps.due("index of '" + name + "'", s.index(name), NONE);
        }
        Steps.due("index of a, the first", s.index("a"), 0);
    }

    private static void taken() {
        Steps s = new Steps("a", "abcdefgh", "ab");
        String[] none = {"a", "abcdefgh", "ab"};
        for (String name : none) {
            Steps.due("index of " + name + " again", s.index(name), NONE);
        }
        s.q.on(0, false);
        Steps.due("index of a, which is off", s.index("a"), NONE);
        Steps.due("on(0, false): it stays off", s.q.on(0, false), false);
        Steps.due("index of another", s.index("c"), 3);
    }

    private static void likeAnotherOne() {
        Steps s = new Steps("ab", "a", "abc", "b", "ba", "abcdefgh", "abcdefgi", "bbcdefgh");
        s.dueTree(0, "abcdefgi=1", 0, 6, 1, NONE);
        s.dueTree(0, "bbcdefgh=1", 0, 7, 1, NONE);
        s.dueTree(0, "a=1", 0, 1, 1, NONE);
    }

    private static void joiningWords() {
        Steps s = new Steps();
        String[] none = {"and", "or", "not"};
        for (String name : none) {
            Steps.due("index of " + name, s.index(name), NONE);
        }
        Steps.due("on(0, true): there is none", s.q.on(0, true), false);
    }

    private static void nearlyJoiningWords() {
        Steps s = new Steps("ands", "an", "o", "nota", "xor", "nand", "no", "r");
        s.dueTree(0, "ands=1 and nota=2", 3, NONE, NONE, NONE, 0, 0, 1, NONE, 0, 3, 2, NONE);
        s.dueTree(1, "or ( xor 1 ) ( nand 2 )", 4, NONE, NONE, NONE, 0, 4, 1, NONE, 0, 5, 2, NONE);
        Steps oneLetter = new Steps("end", "add", "ant", "er", "of", "dot", "nut", "now");
        oneLetter.dueTree(0, "end=1 and dot=2", 3, NONE, NONE, NONE, 0, 0, 1, NONE, 0, 5, 2, NONE);
        oneLetter.dueTree(1, "er 3", 0, 3, 3, NONE);
    }

    private static void eightAtMost() {
        Steps s = eight();
        Steps.due("index of a ninth", s.index("i"), NONE);
        Steps.due("index of a ninth again", s.index("i"), NONE);
        s.dueWrong(0, "i=1", 0);
        Steps.due("on(8, true)", s.q.on(8, true), false);
        s.q.on(7, false);
        Steps.due("index of a ninth while one is off", s.index("i"), NONE);
        s.dueTree(0, "h=1", 0, 7, 1, NONE);
        s.dueTree(0, "a=1", 0, 0, 1, NONE);
    }

    private static void clearedIfNone() {
        Steps s = new Steps("a");
        String[] none = {"A", "a", "and", "abcdefghi"};
        for (String name : none) {
            Steps.due("index of " + name, s.index(name), NONE);
            s.dueRead(0, "a=1", 1);
        }
        Steps full = eight();
        Steps.due("index of a ninth", full.index("i"), NONE);
        full.dueRead(0, "a=1", 1);
    }
}
