import java.util.ArrayList;
import java.util.Comparator;
import java.util.List;
import java.util.Random;

/** Promises 8 to 13 and 15: random runs of calls against a model made of lists. */
public final class RandomRunsTest {
    private static final List<String> NAMES = List.of("a", "b", "c");
    /** A step looks at all hits, at most 60, or tells a text of four terms. */
    private static final int MOST_A_STEP = 80;

    private final Random random = Steps.fixedRandom(7);
    private final Steps s = new Steps(NAMES.toArray(new String[0]));
    private final boolean[] on = {true, true, true};
    private final List<Long> moments = new ArrayList<>();
    private final List<List<int[]>> entries = new ArrayList<>();
    private final Oracle.Node[] questions = new Oracle.Node[10];
    private final Long[] looked = new Long[10];
    private List<Integer> hits = List.of();

    private RandomRunsTest(int seed) {
        random.setSeed(seed);
    }

    public static void main(String[] args) {
        for (int seed = 0; seed < 3000; seed++) {
            RandomRunsTest t = new RandomRunsTest(seed);
            while (t.s.q.count() < Calls.MOST - MOST_A_STEP) {
                t.step();
            }
        }
        Steps.end();
    }

    private void step() {
        switch (random.nextInt(12)) {
            case 0: addRecord(); break;
            case 1: turn(); break;
            case 2: saveOne(); break;
            case 3: case 4: look(false); break;
            case 5: case 6: look(true); break;
            case 7: dueHits(); break;
            case 8: Steps.due("broken()", s.q.broken(), broken()); break;
            default: addEntry();
        }
    }

    private void addRecord() {
        long latest = moments.isEmpty() ? -5 : moments.get(moments.size() - 1);
        long moment = latest + random.nextInt(4) - 1;
        boolean fits = moments.size() < 60 && (moments.isEmpty() || moment >= latest);
        if (fits) {
            moments.add(moment);
            entries.add(new ArrayList<>());
        }
        Steps.due("record(" + moment + ")", s.q.record(moment), fits ? moments.size() : 0);
    }

    private void addEntry() {
        int record = random.nextInt(moments.size() + 3) - 1;
        int index = random.nextInt(40) == 0 ? random.nextInt(12) - 4 : random.nextInt(3);
        int value = random.nextInt(40) == 0 ? random.nextInt(200003) - 2 : random.nextInt(130);
        boolean fits = record >= 1 && record <= moments.size() && index >= 0 && index < 3
                && value >= 0 && value <= 99999 && entries.get(record - 1).size() < 8;
        if (fits) {
            entries.get(record - 1).add(new int[] {index, value});
        }
        String call = "entry(" + record + ", " + index + ", " + value + ")";
        Steps.due(call, s.q.entry(record, index, value), fits ? entries.get(record - 1).size() : 0);
    }

    private void turn() {
        int index = random.nextInt(3);
        boolean to = random.nextInt(4) != 0;
        Steps.due("on(" + index + ", " + to + ")", s.q.on(index, to), on[index]);
        on[index] = to;
    }

    private void saveOne() {
        String text = term();
        for (int i = random.nextInt(4); i > 0; i--) {
            String joint = new String[] {" and ", " or ", " not "}[random.nextInt(3)];
            text = random.nextBoolean() ? "(" + text + ")" + joint + term() : text + joint + term();
        }
        int question = random.nextInt(10);
        s.saved(question, 0, text);
        questions[question] = new Oracle(NAMES, 0, text).tree;
        looked[question] = null;
    }

    private String term() {
        int value = random.nextInt(random.nextBoolean() ? 10 : 130);
        String[] behind = {"", ".." + (value + random.nextInt(60)), "*"};
        return NAMES.get(random.nextInt(3)) + "=" + value + behind[random.nextInt(3)];
    }

    private void look(boolean onlyNew) {
        int question = random.nextInt(12) - 1;
        boolean fits = question >= 0 && question < 10 && questions[question] != null && !isBroken(question);
        int got = onlyNew ? s.q.alert(question) : s.q.run(question);
        if (fits) {
            hits = meeting(questions[question], onlyNew ? looked[question] : null);
        }
        if (fits && onlyNew && !moments.isEmpty()) {
            looked[question] = moments.get(moments.size() - 1);
        }
        Steps.due((onlyNew ? "alert(" : "run(") + question + ")", got, fits ? hits.size() : -1);
        dueHits();
    }

    private List<Integer> meeting(Oracle.Node tree, Long above) {
        List<Integer> found = new ArrayList<>();
        for (int number = 1; number <= moments.size(); number++) {
            boolean isNew = above == null || moments.get(number - 1) > above;
            if (isNew && tree.meets(entries.get(number - 1))) {
                found.add(number);
            }
        }
        Comparator<Integer> latestFirst = Comparator.comparing(n -> -moments.get(n - 1));
        found.sort(latestFirst.thenComparing(Comparator.naturalOrder()));
        return found;
    }

    private void dueHits() {
        for (int i = -1; i <= hits.size(); i++) {
            int want = i >= 0 && i < hits.size() ? hits.get(i) : 0;
            Steps.due("at(" + i + ")", s.q.at(i), want);
        }
    }

    private boolean isBroken(int question) {
        List<Integer> numbers = questions[question].numbers();
        for (int i = 1; i < numbers.size(); i += 4) {
            if (numbers.get(i) >= 0 && !on[numbers.get(i)]) {
                return true;
            }
        }
        return false;
    }

    private int broken() {
        int count = 0;
        for (int i = 0; i < 10; i++) {
            count += questions[i] != null && isBroken(i) ? 1 : 0;
        }
        return count;
    }
}
