import java.util.Random;

/** An object that takes whole texts, and the count of answers that are not as due. */
final class Steps {
    private static int answers = 0;
    private static int wrong = 0;

    final Calls q = new Calls();

    Steps(String... names) {
        for (int i = 0; i < names.length; i++) {
            int got = index(names[i]);
            // Only a wrong answer counts here, so that a sentence needs answers of its own.
            if (got != i) {
                due("index of " + names[i], got, i);
            }
        }
    }

    /** The test of one sentence of the document, which is told if an answer is not as due. */
    static void sentence(String words, Runnable test) {
        int answersBefore = answers;
        int wrongBefore = wrong;
        test.run();
        due("answers that test: " + words, answers > answersBefore, true);
        if (wrong > wrongBefore) {
            System.out.println("  this does not hold: " + words);
        }
    }

    static void due(String call, long got, long want) {
        answers++;
        if (got != want) {
            wrong++;
            System.out.println(call + " answered " + got + ", due is " + want);
        }
    }

    static void due(String call, boolean got, boolean want) {
        due(call, got ? 1 : 0, want ? 1 : 0);
    }

    static void end() {
        if (wrong != 0) {
            System.out.println(wrong + " answers are not as due");
            System.exit(1);
        }
    }

    static String times(String part, int count) {
        return part.repeat(count);
    }

    void collect(String text) {
        for (int i = 0; i < text.length(); i++) {
            q.sign(text.charAt(i));
        }
    }

    int index(String name) {
        collect(name);
        return q.index();
    }

    int read(int form, String text) {
        collect(text);
        return q.read(form);
    }

    /** Reads a text and saves it, which must go well. */
    void saved(int question, int form, String text) {
        due("nodes of '" + text + "' above 0", read(form, text) > 0, true);
        due("save(" + question + ") of '" + text + "'", q.save(question), 1);
    }

    void dueRead(int form, String text, int want) {
        due("read(" + form + ") of '" + text + "'", read(form, text), want);
    }

    /** A text that is WRONG at a place. */
    void dueWrong(int form, String text, int place) {
        dueRead(form, text, -1 - place);
    }

    /** A text that is WRONG at a place, and the index that near tells after it. */
    void dueUnknown(int form, String text, int place, int near) {
        dueWrong(form, text, place);
        due("near() after '" + text + "'", q.near(), near);
    }

    /** Four numbers a node: sort, index, least, greatest. */
    void dueNodes(String text, int... want) {
        for (int i = 0; i < want.length; i++) {
            due("node(" + i / 4 + ", " + i % 4 + ") of '" + text + "'", q.node(i / 4, i % 4), want[i]);
        }
        due("node behind the last of '" + text + "'", q.node(want.length / 4, 0), QuerySteps.NONE);
    }

    void dueTree(int form, String text, int... want) {
        dueRead(form, text, want.length / 4);
        dueNodes(text, want);
    }

    void dueHits(String call, int got, int... want) {
        due(call, got, want.length);
        for (int i = 0; i < want.length; i++) {
            due("at(" + i + ") after " + call, q.at(i), want[i]);
        }
        due("at behind the last after " + call, q.at(want.length), 0);
    }

    /** The same numbers at every run of a test. */
    static Random fixedRandom(long seed) {
        return new Random(seed);
    }
}
