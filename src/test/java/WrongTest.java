/** The terms: VALUES, and what is WRONG and where. */
public final class WrongTest {
    private static final int N = QuerySteps.NONE;
    private static final String TWENTY_JOINED = Steps.times("a=1 or ", 20);

    public static void main(String[] args) {
        Steps.sentence("VALUES are 1 digit at least", WrongTest::oneDigitAtLeast);
        Steps.sentence("VALUES are 5 digits at most", WrongTest::fiveDigitsAtMost);
        Steps.sentence("digits", WrongTest::digits);
        Steps.sentence("Of a RANGE the second is not below the first", WrongTest::secondNotBelow);
        Steps.sentence("or it is WRONG at the second's first sign", WrongTest::secondBelow);
        Steps.sentence("WRONG is the first sign that does not fit", WrongTest::firstSign);
        Steps.sentence("or the end, told by its place", WrongTest::theEnd);
        Steps.sentence("a NAME that is none at its first sign", WrongTest::noName);
        Steps.sentence("a word that is none at its first sign", WrongTest::noWord);
        Steps.sentence("a row of small letters, as long as it may be", WrongTest::longRows);
        Steps.sentence("where a NAME or a node is to begin", WrongTest::whereNamesBegin);
        Steps.sentence("only where a NAME or a node is to begin", WrongTest::whereNoNamesBegin);
        Steps.sentence("(in FORM 0 and, or, not too)", WrongTest::joiningWords);
        Steps.sentence("also if its node would be one too many", WrongTest::unknownOneTooMany);
        Steps.sentence("a value of more digits at the sixth", WrongTest::sixthDigit);
        Steps.sentence("a value of more digits at the sixth: a RANGE's second, too", WrongTest::sixthOfSecond);
        Steps.sentence("a tree of more than 40 nodes at what begins the one too many", WrongTest::tooManyNodes);
        Steps.sentence("(its first sign): not a bracket's", WrongTest::tooManyInBrackets);
        Steps.sentence("more than 40 nodes: brackets are none", WrongTest::bracketsAreNoNodes);
        Steps.sentence("more than 40 nodes: each text is counted anew", WrongTest::countedAnew);
        Steps.sentence("brackets more than 20 deep, at what begins the one too many", WrongTest::tooDeep);
        Steps.sentence("brackets more than 20 deep: FORM 1", WrongTest::tooDeepInFront);
        Steps.sentence("deep, not many: closed ones do not count", WrongTest::closedBrackets);
        Steps.sentence("too deep and too many: the first of the two", WrongTest::deepAndMany);
        Steps.end();
    }

    /** For long texts: an object has 512 calls, and each sign is one. */
    private static Steps withA() {
        return new Steps("a");
    }

    private static Steps withAAndB() {
        return new Steps("a", "b");
    }

    private static void oneDigitAtLeast() {
        Steps s = new Steps("a");
        s.dueRead(0, "a=5", 1);
        s.dueWrong(0, "a=", 2);
        s.dueWrong(0, "a=*", 2);
        s.dueWrong(0, "a=..5", 2);
        s.dueWrong(0, "a=5..", 5);
        s.dueRead(1, "a 5", 1);
        s.dueWrong(1, "a ", 2);
        s.dueWrong(1, "or ( a )", 7);
    }

    private static void fiveDigitsAtMost() {
        Steps s = new Steps("a");
        s.dueTree(0, "a=12345", 0, 0, 12345, N);
        s.dueTree(0, "a=99999*", 2, 0, 99999, N);
        s.dueTree(0, "a=00000..00009", 1, 0, 0, 9);
        s.dueTree(1, "a 12345 99999", 1, 0, 12345, 99999);
        s.dueWrong(0, "a=100000", 7);
        s.dueWrong(1, "a 100000", 7);
    }

    private static void digits() {
        Steps s = new Steps("a");
        s.dueTree(0, "a=01234", 0, 0, 1234, N);
        s.dueTree(0, "a=56789", 0, 0, 56789, N);
        s.dueWrong(0, "a=/", 2);
        s.dueWrong(0, "a=:", 2);
        s.dueWrong(0, "a=1/", 3);
        s.dueWrong(0, "a=1:", 3);
        s.dueWrong(0, "a=+1", 2);
        s.dueWrong(0, "a=\u00b2", 2);
    }

    private static void secondNotBelow() {
        Steps s = new Steps("a");
        s.dueTree(0, "a=9..9", 1, 0, 9, 9);
        s.dueTree(0, "a=9..10", 1, 0, 9, 10);
        s.dueTree(0, "a=0..0", 1, 0, 0, 0);
        s.dueTree(0, "a=00009..9", 1, 0, 9, 9);
        s.dueTree(0, "a=99999..99999", 1, 0, 99999, 99999);
        s.dueTree(1, "a 9 9", 1, 0, 9, 9);
        s.dueTree(1, "a 9 10", 1, 0, 9, 10);
    }

    private static void secondBelow() {
        Steps s = new Steps("a");
        s.dueWrong(0, "a=9..8", 5);
        s.dueWrong(0, "a=1..0", 5);
        s.dueWrong(0, "a=10..9", 6);
        s.dueWrong(0, "a=9..00008", 5);
        s.dueWrong(0, "a=99999..99998", 9);
        s.dueWrong(0, "a=9..8x", 5);
        s.dueWrong(0, "a=100..99 and x=1", 7);
        s.dueWrong(0, "(a=9..8)", 6);
        s.dueWrong(1, "a 9 8", 4);
        s.dueWrong(1, "a 9 00008", 4);
        s.dueWrong(1, "a 9 8x", 4);
        s.dueWrong(1, "or ( a 9 8 )", 9);
    }

    private static void firstSign() {
        Steps s = new Steps("a");
        s.dueWrong(0, "a=1? and b=2 and a=123456", 3);
        s.dueWrong(0, "a=9..8 or b=1", 5);
        s.dueWrong(0, "b=1 or a=9..8", 0);
        s.dueWrong(0, "a=123456 or (", 7);
        s.dueWrong(1, "or ( b 1 ) ( c", 5);
        s.dueWrong(1, "or ( a 1 )) (", 10);
        s.dueUnknown(0, "a=? or aa=1", 2, N);
        s.dueUnknown(0, "aa=? or b=1", 0, 0);
    }

    /** Every text that a whole one begins with, but for those that are whole themselves. */
    private static void theEnd() {
        dueEnds(0, "(a=1..23 and a=4*) not a=5", "(a=1..23 and a=4*)");
        dueEnds(1, "not ( and ( a 1 23 ) ( a 4 * ) ) ( a 5 )");
        dueEnds(1, "a 1 *", "a 1");
    }

    private static void dueEnds(int form, String text, String... whole) {
        for (int length = 0; length < text.length(); length++) {
            String start = text.substring(0, length);
            // A word that is cut is none: WRONG at its first sign, not at the end.
            boolean isCut = start.matches("(.*\\( )?(an|n|no)") || start.matches(".*[0-9*)] (a|an|n|no)");
            if (!isCut && !java.util.List.of(whole).contains(start)) {
                withA().dueWrong(form, start, length);
            }
        }
        Steps.due("'" + text + "' is whole", withA().read(form, text) > 0, true);
    }

    private static void noName() {
        Steps s = new Steps("a", "ab");
        s.dueWrong(0, "abc=1", 0);
        s.dueWrong(0, "b=1", 0);
        s.dueWrong(0, "ba", 0);
        s.dueWrong(0, "(b=1)", 1);
        s.dueWrong(0, "a=1 or abc=1", 7);
        s.dueWrong(1, "abc 1", 0);
        s.dueWrong(1, "or ( abc 1 )", 5);
        s.dueWrong(1, "or ( a 1 ) ( b 2 )", 13);
        s.dueWrong(0, "abC=1", 2);
        s.dueWrong(1, "abC 1", 2);
    }

    private static void noWord() {
        Steps s = new Steps("a");
        s.dueWrong(0, "a=1 xor a=2", 4);
        s.dueWrong(0, "a=1 an a=2", 4);
        s.dueWrong(0, "a=1 andy a=2", 4);
        s.dueWrong(0, "a=1 anda=2", 4);
        s.dueWrong(0, "a=1 orand a=2", 4);
        s.dueWrong(0, "a=1 an", 4);
        s.dueWrong(0, "a=1 no", 4);
        s.dueWrong(0, "a=1 o", 4);
        String[] oneLetterOff = {"end", "add", "ant", "er", "of", "dot", "nut", "now"};
        for (String word : oneLetterOff) {
            s.dueWrong(0, "a=1 " + word + " a=2", 4);
            s.dueWrong(1, word + " ( a 1 ) ( a 2 )", 0);
        }
        s = new Steps("a");
        s.dueWrong(0, "a=1 And a=2", 4);
        s.dueWrong(0, "a=1 anD a=2", 4);
        s.dueWrong(0, "a=1 a=2", 4);
        s.dueWrong(1, "an ( a 1 ) ( a 2 )", 0);
        s.dueWrong(1, "notor ( a 1 ) ( a 2 )", 0);
        s.dueWrong(1, "or ( nor ( a 1 )", 5);
    }

    private static void longRows() {
        String[] names = {"a", "bcdefghi"};
        Steps s = new Steps(names);
        s.dueUnknown(0, "b=1", 0, 0);
        s.dueUnknown(0, "bcdefgh=1", 0, 1);
        s.dueUnknown(0, "bcdefghij=1", 0, 1);
        s.dueUnknown(1, "bcdefghij 1", 0, 1);
        new Steps(names).dueUnknown(0, Steps.times("a", 200), 0, 0);
        new Steps(names).dueUnknown(1, Steps.times("a", 200), 0, 0);
        new Steps(names).dueUnknown(0, Steps.times("z", 192) + "bcdefghi", 0, 1);
        new Steps(names).dueUnknown(1, Steps.times("z", 100) + "cegi 1", 0, 1);
    }

    private static void whereNamesBegin() {
        Steps s = new Steps("ant", "nut", "our");
        s.dueUnknown(0, "nutt", 0, 1);
        s.dueUnknown(0, "nutT=1", 3, N);
        s.dueUnknown(0, "(((nutt=2)))", 3, 1);
        s.dueUnknown(0, "ant=1 or nutt=2", 9, 1);
        s.dueUnknown(0, "ant=1 or (nutt=2)", 10, 1);
        s.dueUnknown(0, "ant=1 or (nut=2 and ourr=2)", 20, 2);
        s.dueUnknown(1, "nutt", 0, 1);
        s.dueUnknown(1, "ands ( ant 1 ) ( nut 2 )", 0, 0);
        s.dueUnknown(1, "and ( nots ( ant 1 ) ( nut 2 ) )", 6, 1);
        s.dueUnknown(1, "and ( ant 1 ) ( ou 2 )", 16, 2);
        s.dueUnknown(0, "nuT=1", 0, 1);
    }

    private static void whereNoNamesBegin() {
        Steps s = new Steps("ant", "nut");
        s.dueUnknown(0, "ant=nutt", 4, N);
        s.dueUnknown(0, "ant=1..nutt", 7, N);
        s.dueUnknown(0, "ant=1nutt", 5, N);
        s.dueUnknown(0, "ant=1 nutt=1", 6, N);
        s.dueUnknown(0, "ant=1 xor nut=1", 6, N);
        s.dueUnknown(0, "(ant=1)nutt", 7, N);
        s.dueUnknown(0, "Ant=1", 0, N);
        s.dueUnknown(1, "ant nutt", 4, N);
        s.dueUnknown(1, "ant 1 nutt", 6, N);
        s.dueUnknown(1, "and nutt 1", 4, N);
        s.dueUnknown(1, "and ( ant 1 nutt", 12, N);
        s.dueUnknown(1, "and ( ant 1 ) nutt", 14, N);
    }

    private static void joiningWords() {
        Steps s = new Steps("ant", "nut", "our");
        s.dueUnknown(0, "and=1", 0, 0);
        s.dueUnknown(0, "not=1", 0, 1);
        s.dueUnknown(0, "or=1", 0, 2);
        s.dueUnknown(0, "not ant=1", 0, 1);
        s.dueUnknown(0, "(or", 1, 2);
        s.dueUnknown(0, "ant=1 and not ant=2", 10, 1);
        s.dueUnknown(1, "and", 3, N);
        s.dueUnknown(1, "or", 2, N);
        s.dueUnknown(1, "not", 3, N);
        s.dueUnknown(1, "or ( not", 8, N);
    }

    private static void unknownOneTooMany() {
        withAAndB().dueUnknown(0, TWENTY_JOINED + "bb=1", 140, 1);
        withAAndB().dueUnknown(0, TWENTY_JOINED + "bb", 140, 1);
        withAAndB().dueUnknown(0, TWENTY_JOINED + "(bb=1)", 141, 1);
        withAAndB().dueUnknown(0, TWENTY_JOINED + "and", 140, 0);
        withAAndB().dueUnknown(0, TWENTY_JOINED + "b=1", 140, N);
        withAAndB().dueUnknown(0, TWENTY_JOINED + "b", 140, N);
    }

    private static void sixthDigit() {
        Steps s = new Steps("a");
        s.dueWrong(0, "a=123456", 7);
        s.dueWrong(0, "a=000001", 7);
        s.dueWrong(0, "a=1234567", 7);
        s.dueWrong(0, "a=12345678901234567890", 7);
        s.dueWrong(0, "a=123456*", 7);
        s.dueWrong(0, "a=123456..9", 7);
        s.dueWrong(0, "a=12345x", 7);
        s.dueWrong(1, "a 123456", 7);
        s.dueWrong(1, "a 000000", 7);
        s.dueWrong(1, "or ( a 123456 )", 12);
    }

    private static void sixthOfSecond() {
        Steps s = new Steps("a");
        s.dueWrong(0, "a=1..123456", 10);
        s.dueWrong(0, "a=99999..100000", 14);
        s.dueWrong(0, "a=99999..000001", 14);
        s.dueWrong(1, "a 1 123456", 9);
        s.dueWrong(1, "a 99999 100000", 13);
    }

    private static void tooManyNodes() {
        withA().dueRead(0, Steps.times("a=1 or ", 19) + "a=1", 39);
        withA().dueWrong(0, TWENTY_JOINED + "a=1", 140);
        withA().dueWrong(0, TWENTY_JOINED + "a=?", 140);
        withA().dueWrong(0, TWENTY_JOINED + "a", 140);
        withA().dueWrong(0, TWENTY_JOINED + "a=1 or a=1 or a=1", 140);
        withA().dueWrong(0, Steps.times("a=1 and ", 20) + "a=1", 160);
        withA().dueWrong(0, Steps.times("a=1 or a=1 and ", 10) + "a=1", 150);
        withA().dueWrong(0, "(" + TWENTY_JOINED + "a=1)", 141);
        // What is WRONG before it, or is no node, is WRONG as ever.
        withA().dueWrong(0, TWENTY_JOINED, 140);
        withA().dueWrong(0, TWENTY_JOINED + "1", 140);
        withA().dueWrong(0, Steps.times("a=1 or ", 19) + "a=1 xor a=1", 137);
        withA().dueWrong(0, Steps.times("a=1 or ", 19) + "a=1 or", 139);
        withA().dueWrong(0, Steps.times("a=1 or ", 19) + "a=1 ", 137);
    }

    private static void tooManyInBrackets() {
        Steps s = new Steps("a");
        s.dueWrong(0, TWENTY_JOINED + "(a=1)", 141);
        s.dueWrong(0, TWENTY_JOINED + "((a=1))", 142);
        s.dueWrong(0, TWENTY_JOINED + "()", 141);
    }

    private static void bracketsAreNoNodes() {
        withA().dueRead(0, Steps.times("(a=1 or ", 19) + "a=1" + Steps.times(")", 19), 39);
        withA().dueRead(0, Steps.times("(", 19) + "a=1" + Steps.times(" or a=1)", 19), 39);
        withA().dueWrong(0, Steps.times("(a=1 or ", 20) + "a=1" + Steps.times(")", 20), 160);
    }

    private static void countedAnew() {
        Steps s = new Steps("a");
        s.dueRead(0, Steps.times("a=1 or ", 19) + "a=1", 39);
        s.dueWrong(0, TWENTY_JOINED + "a=1", 140);
        s.dueRead(1, "or ( a 1 ) ( a 2 )", 3);
        s.dueRead(0, Steps.times("a=1 or ", 19) + "a=1", 39);
    }

    private static void tooDeep() {
        Steps s = new Steps("a");
        s.dueRead(0, Steps.times("(", 20) + "a=1" + Steps.times(")", 20), 1);
        s.dueWrong(0, Steps.times("(", 21) + "a=1" + Steps.times(")", 21), 20);
        s.dueWrong(0, Steps.times("(", 200), 20);
        s.dueWrong(0, Steps.times("(", 20), 20);
        s.dueWrong(0, Steps.times("(", 20) + "a=1 or (a=2)" + Steps.times(")", 20), 27);
        s.dueRead(0, "a=1 or " + Steps.times("(", 20) + "a=1" + Steps.times(")", 20), 3);
        s.dueWrong(0, "a=1 or " + Steps.times("(", 21) + "a=1" + Steps.times(")", 21), 27);
    }

    private static void tooDeepInFront() {
        String twenty = Steps.times("or ( ", 20);
        // Twenty deep fits as far as 200 signs go, so that what is WRONG stands behind it.
        withA().dueWrong(1, twenty + "a 1 x", 104);
        withA().dueWrong(1, twenty + "a 1 ) ( a 1 ) ?", 114);
        withA().dueWrong(1, twenty + "xor", 100);
        withA().dueWrong(1, twenty + "or", 102);
        withA().dueWrong(1, twenty + "or ( a 1 )", 103);
        withA().dueWrong(1, twenty + "or (", 103);
        withA().dueWrong(1, twenty + "a 1 ) ( or (", 111);
        withA().dueRead(1, Steps.times("or ( ", 12) + "a 1" + Steps.times(" ) ( a 1 )", 12), 25);
    }

    private static void closedBrackets() {
        Steps s = new Steps("a");
        s.dueRead(0, Steps.times("(", 20) + "a=1) or (a=2" + Steps.times(")", 20), 3);
        s.dueRead(0, Steps.times("(a=1) or ", 19) + "(a=1)", 39);
        s.dueRead(0, Steps.times("((((((a=1)))))) or ", 7) + "((((((a=1))))))", 15);
        s.dueRead(1, "or ( or ( a 1 ) ( a 1 ) ) ( or ( a 1 ) ( or ( a 1 ) ( a 1 ) ) )", 9);
        s.dueWrong(0, Steps.times("(", 19) + "(a=1) or ((a=2", 29);
    }

    private static void deepAndMany() {
        Steps s = new Steps("a");
        s.dueWrong(0, TWENTY_JOINED + Steps.times("(", 21) + "a=1", 160);
        s.dueWrong(0, TWENTY_JOINED + Steps.times("(", 20) + "a=1", 160);
        s.dueWrong(0, TWENTY_JOINED + "a=1 or " + Steps.times("(", 21), 140);
    }
}
