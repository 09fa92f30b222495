import java.util.List;
import java.util.Random;

/** Promises 5, 6, 7, 14: texts of random trees, whole and spoilt, against the oracle's answers. */
public final class RandomTextsTest {
    private static final List<String> NAMES = List.of("a", "b", "an", "bcdefghi", "nota", "title");
    private static final String[] WORDS = {"and", "or", "not"};
    private static final String SIGNS = "ab=.*() 0159 ndort  ()Z";

    private final Random random = Steps.fixedRandom(20261115);

    public static void main(String[] args) {
        RandomTextsTest t = new RandomTextsTest();
        int whole = 0;
        int unknown = 0;
        for (int i = 0; i < 60000; i++) {
            int form = i % 2;
            Oracle.Node tree = t.tree(t.random.nextInt(i % 7 == 0 ? 24 : 7));
            String text = form == 0 ? t.between(tree, 0) : t.front(tree);
            for (int spoils = t.random.nextInt(4); spoils > 0; spoils--) {
                text = t.spoilt(text);
            }
            // Signs beyond 200 are lost, but each is one of the 512 calls.
            text = text.substring(0, Math.min(text.length(), 220));
            Oracle o = dueAsOracle(form, text);
            whole += o.tree != null ? 1 : 0;
            unknown += o.unknown != null ? 1 : 0;
        }
        // The texts are of use only if many of each kind come.
        Steps.due("many whole texts", whole > 10000, true);
        Steps.due("many UNKNOWN ones", unknown > 3000, true);
        for (int i = 0; i < 3000; i++) {
            t.bothFormsAreTheSame();
        }
        Steps.end();
    }

    private static Oracle dueAsOracle(int form, String text) {
        Steps s = new Steps(NAMES.toArray(new String[0]));
        Oracle o = new Oracle(NAMES, form, text);
        s.dueRead(form, text, o.answer);
        Steps.due("near() after '" + text + "'", s.q.near(), o.near());
        if (o.tree != null) {
            s.dueNodes(text, o.tree.numbers().stream().mapToInt(n -> n).toArray());
        }
        return o;
    }

    private void bothFormsAreTheSame() {
        Oracle.Node tree = tree(random.nextInt(8));
        String between = between(tree, 0);
        String front = front(tree);
        if (between.length() > 200 || front.length() > 200) {
            return;
        }
        Steps s = new Steps(NAMES.toArray(new String[0]));
        s.saved(0, 0, between);
        s.dueNodes(between, tree.numbers().stream().mapToInt(n -> n).toArray());
        s.saved(1, 1, front);
        Steps.due("same of '" + between + "' and '" + front + "'", s.q.same(0, 1), true);
    }

    private Oracle.Node tree(int joints) {
        if (joints == 0) {
            return leaf();
        }
        int first = random.nextInt(joints);
        return new Oracle.Node(3 + random.nextInt(3), tree(first), tree(joints - 1 - first));
    }

    private Oracle.Node leaf() {
        int sort = random.nextInt(3);
        int least = value();
        int greatest = sort == 1 ? least + random.nextInt(100000 - least) : -1;
        return new Oracle.Node(sort, random.nextInt(3), least, greatest);
    }

    private int value() {
        int[] bounds = {3, 10, 100, 100000};
        return random.nextInt(bounds[random.nextInt(bounds.length)]);
    }

    /** The tree in FORM 0; brackets where they are needed, and some where they are not. */
    private String between(Oracle.Node n, int strength) {
        boolean brackets = random.nextInt(12) == 0;
        String text;
        if (n.first == null) {
            String[] behind = {"", ".." + n.greatest, "*"};
            text = NAMES.get(n.index) + "=" + n.least + behind[n.sort];
        } else {
            int own = n.sort == 3 ? 2 : 1;
            brackets |= own < strength;
            text = between(n.first, own) + " " + WORDS[n.sort - 3] + " " + between(n.second, own + 1);
        }
        return brackets ? "(" + text + ")" : text;
    }

    private String front(Oracle.Node n) {
        if (n.first == null) {
            String[] behind = {"", " " + n.greatest, " *"};
            return NAMES.get(n.index) + " " + n.least + behind[n.sort];
        }
        return WORDS[n.sort - 3] + " ( " + front(n.first) + " ) ( " + front(n.second) + " )";
    }

    private String spoilt(String text) {
        int at = random.nextInt(text.length() + 1);
        String sign = String.valueOf(SIGNS.charAt(random.nextInt(SIGNS.length())));
        switch (random.nextInt(5)) {
            case 0: return text.substring(0, at);
            case 1: return text.substring(0, at) + sign + text.substring(at);
            case 2: return text.substring(0, at) + Steps.times("(", random.nextInt(23)) + text.substring(at);
            default:
                return text.substring(0, at) + sign + text.substring(Math.min(at + 1, text.length()));
        }
    }
}
