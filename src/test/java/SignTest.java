/** Promise 2: sign. */
public final class SignTest {
    private static final int NONE = QuerySteps.NONE;
    /** 19 terms with their joints, 190 signs. */
    private static final String NEARLY_FULL = Steps.times("a=123 and ", 19);

    public static void main(String[] args) {
        Steps.sentence("A sign is collected", SignTest::signsAreCollectedInOrder);
        Steps.sentence("(the lowest eight bits): higher bits do not count", SignTest::higherBitsAreLost);
        Steps.sentence("(the lowest eight bits): the eighth counts", SignTest::theEighthBitCounts);
        Steps.sentence("(the lowest eight bits): 0 is a sign, too", SignTest::zeroIsASign);
        Steps.sentence("the 200th sign is collected", SignTest::theLastThatCounts);
        Steps.sentence("beyond 200 it is lost", SignTest::beyondIsLost);
        Steps.sentence("beyond 200 it is lost, however many come", SignTest::farBeyondIsLost);
        Steps.sentence("200 more may come when nothing is collected any more", SignTest::fullAgain);
        Steps.end();
    }

    /** For long texts: an object has 512 calls, and each sign is one. */
    private static Steps withNames() {
        return new Steps("a", "bbbbbb");
    }

    private static void signsAreCollectedInOrder() {
        Steps s = new Steps("ab");
        s.dueRead(0, "ab=12", 1);
        Steps.due("node(0, 2)", s.q.node(0, 2), 12);
        s.dueWrong(0, "ba=12", 0);
    }

    private static void higherBitsAreLost() {
        Steps s = new Steps();
        s.q.sign(256 + 'a');
        s.q.sign('b' - 256);
        s.q.sign(Integer.MIN_VALUE + 'c');
        s.q.sign(Integer.MAX_VALUE - 255 + 'd');
        Steps.due("index of abcd", s.q.index(), 0);
        s.dueRead(0, "abcd=1", 1);
    }

    private static void theEighthBitCounts() {
        Steps s = new Steps();
        s.q.sign('a' + 128);
        Steps.due("index of a with the eighth bit", s.q.index(), NONE);
        s.q.sign('a' - 128);
        Steps.due("index of a less 128", s.q.index(), NONE);
        s.q.sign(255);
        Steps.due("index of sign 255", s.q.index(), NONE);
        s.q.sign(-1);
        Steps.due("index of sign -1", s.q.index(), NONE);
    }

    private static void zeroIsASign() {
        Steps s = new Steps("a");
        s.q.sign('b');
        s.q.sign(0);
        Steps.due("index of b and sign 0", s.q.index(), NONE);
        s.collect("a=1");
        s.q.sign(256);
        Steps.due("read(0) of a=1 and sign 256", s.q.read(0), -4);
    }

    private static void theLastThatCounts() {
        Steps s = withNames();
        s.dueRead(0, NEARLY_FULL + "bbbbbb=123", 39);
        Steps.due("value that ends with the 200th sign", s.q.node(38, 2), 123);
        withNames().dueWrong(0, NEARLY_FULL + "bbbbbb=12x", 199);
        withNames().dueWrong(0, NEARLY_FULL + "bbbbbb=12.", 200);
    }

    private static void beyondIsLost() {
        Steps s = withNames();
        s.dueRead(0, NEARLY_FULL + "bbbbbb=1234", 39);
        Steps.due("value cut at 200", s.q.node(38, 2), 123);
        withNames().dueRead(0, NEARLY_FULL + "bbbbbb=123x", 39);
        withNames().dueWrong(0, NEARLY_FULL + "bbbbbb=12..99", 200);
    }

    private static void farBeyondIsLost() {
        Steps s = withNames();
        s.dueRead(0, NEARLY_FULL + "bbbbbb=123" + Steps.times("4", 100), 39);
        Steps.due("value cut at 200", s.q.node(38, 2), 123);
        Steps.due("index of 257 letters", new Steps().index(Steps.times("x", 257)), NONE);
        Steps.due("index of 511 letters", new Steps().index(Steps.times("x", 511)), NONE);
    }

    private static void fullAgain() {
        Steps s = withNames();
        s.dueUnknown(0, Steps.times("x", 201), 0, 0);
        s.dueRead(0, NEARLY_FULL + "bbbbbb=123", 39);
        Steps afterIndex = withNames();
        Steps.due("index of 201 letters", afterIndex.index(Steps.times("x", 201)), NONE);
        afterIndex.dueRead(0, NEARLY_FULL + "bbbbbb=123", 39);
    }
}
