import java.util.Random;

/** Any calls with any arguments in any state: none throws, and each answers within its bounds. */
public final class AnyCallsTest {
    private static final String SIGNS = "aaabbb==0123456789..** () ()  and or not ";
    private static final int[] EDGES = {Integer.MIN_VALUE, -256, -1, 0, 1, 7, 8, 9, 10, 39, 40, 59, 60, 61, 99999,
        100000, 256, Integer.MAX_VALUE};

    private final Random random;
    private final Calls q = new Calls();

    private AnyCallsTest(int seed) {
        random = Steps.fixedRandom(seed);
    }

    public static void main(String[] args) {
        for (int seed = 0; seed < 3000; seed++) {
            AnyCallsTest t = new AnyCallsTest(seed);
            while (t.q.count() < Calls.MOST) {
                t.call();
            }
        }
        Steps.end();
    }

    private void call() {
        switch (random.nextInt(24)) {
            case 0: within("index()", q.index(), -1, 7); break;
            case 1: q.on(number(8), random.nextInt(3) > 0); break;
            case 2: within("read", q.read(number(2)), -201, 39); break;
            case 3: within("node", q.node(number(40), number(5)), -1, 99999); break;
            case 4: within("near()", q.near(), -1, 7); break;
            case 5: within("record", q.record(moment()), 0, 60); break;
            case 6: within("entry", q.entry(number(62), number(9), number(20)), 0, 8); break;
            case 7: within("save", q.save(number(11)), 0, 1); break;
            case 8: within("run", q.run(number(11)), -1, 60); break;
            case 9: within("alert", q.alert(number(11)), -1, 60); break;
            case 10: within("at", q.at(number(61)), 0, 60); break;
            case 11: q.same(number(10), number(10)); break;
            case 12: within("broken()", q.broken(), 0, 10); break;
            case 13: case 14: tell("a"); q.index(); break;
            case 15: case 16: tell("a=1 or a=2*"); q.read(0); break;
            default: sign();
        }
    }

    private static void within(String call, int got, int least, int greatest) {
        Steps.due(call + " answered " + got + ", which is within its bounds", got >= least && got <= greatest, true);
    }

    /** Mostly a number that may be there, else one from the edges, else any. */
    private int number(int bound) {
        switch (random.nextInt(8)) {
            case 0: return random.nextInt();
            case 1: case 2: return EDGES[random.nextInt(EDGES.length)];
            default: return random.nextInt(bound);
        }
    }

    private long moment() {
        return random.nextInt(30) == 0 ? random.nextLong() : random.nextInt(5);
    }

    private void sign() {
        boolean isAny = random.nextInt(60) == 0;
        q.sign(isAny ? random.nextInt() : SIGNS.charAt(random.nextInt(SIGNS.length())));
    }

    private void tell(String text) {
        for (int i = 0; i < text.length() && q.count() < Calls.MOST - 1; i++) {
            q.sign(text.charAt(i));
        }
    }
}
