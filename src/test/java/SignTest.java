/** Promise 2: sign. */
public final class SignTest {
    public static void main(String[] args) {
        onlyEightBitsCount();
        beyondTwoHundredIsLost();
        Steps.end();
    }

    private static void onlyEightBitsCount() {
        Steps s = new Steps();
        s.q.sign(256 + 'a');
        s.q.sign('b' - 256);
        s.q.sign(Integer.MIN_VALUE + 'c');
        Steps.due("index of abc", s.q.index(), 0);
        s.dueRead(0, "abc=1", 1);
        s.q.sign('a');
        s.q.sign(0);
        Steps.due("index of a and sign 0", s.q.index(), QuerySteps.NONE);
        s.q.sign('a');
        s.q.sign(255);
        Steps.due("index of a and sign 255", s.q.index(), QuerySteps.NONE);
    }

    private static void beyondTwoHundredIsLost() {
        Steps s = new Steps("a", "bbbbbb");
        // 19 terms and joints of 10 signs are 190; the last term takes the rest.
        String start = Steps.times("a=123 and ", 19);
        s.dueRead(0, start + "bbbbbb=123", 39);
        Steps.due("value of the last node", s.q.node(38, 2), 123);
        s.dueRead(0, start + "bbbbbb=1234567890", 39);
        Steps.due("value of the last node, cut at 200", s.q.node(38, 2), 123);
        s.dueWrong(0, start + "bbbbbb=12.", 200);
        s.dueWrong(0, start + "bbbbbb=12..99", 200);
        s.dueUnknown(0, Steps.times("x", 300), 0, 0);
        s.dueRead(0, "a=1", 1);
    }
}
